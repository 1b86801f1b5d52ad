/-! the makers: a line, a program, a pattern, a reader, the reference -/
set_option maxHeartbeats 4000000 in
set_option maxRecDepth 100000 in
theorem cm_Ln_init (l : Launch) (D : va_G) (q : Nat → ClassId) (h x : Nat) (y z : Int32) : kz_Mn (S := Unit) l ky_Ln_init kb_Ln_init 4 1 0 0 D q kz_Z0 [.ref h, .ref x, .int y, .int z] [(h, .inr (0, [.null, .int 0, .int 0]))] (fun u => True) (fun u => [(h, .inr (0, [.ref x, .int y, .int z]))]) := by
  intro sz_
  refine kz_goN (by decide +kernel) (Nat.le_of_ble_eq_true rfl) rfl ?_
  intro p e s m below meth c ls args A Q H locs hQ hA hH hsz X hin hZ U hl
  have hx := X.1
  have hb := X.2.1
  have hl : lv_has ls 4 [(0, .ref h), (1, .ref x), (2, .int y), (3, .int z)] := hl
  refine lv_aload_n hx hb kd_Ln_init_0 rfl (lv_at hl 0 rfl) ?_
  refine kz_oi X hl.1 tb_27 (Nat.le_of_ble_eq_true rfl) (Nat.le_of_ble_eq_true rfl) kd_Ln_init_1 ?_
  refine lv_aload_n hx hb kd_Ln_init_4 rfl (lv_at hl 0 rfl) ?_
  refine lv_aload_n hx hb kd_Ln_init_5 rfl (lv_at hl 1 rfl) ?_
  refine kpf_Ln_7 X hin U 0 rfl (Nat.le_of_ble_eq_true rfl) kd_Ln_init_6 (fun H locs U => ?_)
  have U : kz_U D q s A [(h, .inr (0, [.ref x, .int 0, .int 0]))] H locs := U
  refine lv_aload_n hx hb kd_Ln_init_9 rfl (lv_at hl 0 rfl) ?_
  refine lv_iload_n hx hb kd_Ln_init_10 rfl (lv_at hl 2 rfl) ?_
  refine kp_Ln_13 X U 0 rfl (Nat.le_of_ble_eq_true rfl) kd_Ln_init_11 (fun H locs U => ?_)
  have U : kz_U D q s A [(h, .inr (0, [.ref x, .int y, .int 0]))] H locs := U
  refine lv_aload_n hx hb kd_Ln_init_14 rfl (lv_at hl 0 rfl) ?_
  refine lv_iload_n hx hb kd_Ln_init_15 rfl (lv_at hl 3 rfl) ?_
  refine kpf_Ln_17 X hin U 0 rfl (Nat.le_of_ble_eq_true rfl) kd_Ln_init_16 (fun H locs U => ?_)
  have U : kz_U D q s A [(h, .inr (0, [.ref x, .int y, .int z]))] H locs := U
  exact kz_evN hQ hA X U () rfl trivial kd_Ln_init_19

set_option maxHeartbeats 4000000 in
set_option maxRecDepth 100000 in
theorem cm_Pg_init (l : Launch) (D : va_G) (q : Nat → ClassId) (h : Nat) : kz_Mn (S := Nat × Nat × Nat) l ky_Pg_init kb_Pg_init 1 1 3 243 D q kz_Z0 [.ref h] [(h, .inr (3, [.null, .null, .null, .int 0]))] (fun u => True) (fun u => [(h, .inr (3, [.ref u.1, .ref u.2.1, .ref u.2.2, .int (nI 0)])), (u.1, .inl (q 0, 81, .inl (fun _ => 0))), (u.2.1, .inl (q 0, 81, .inl (fun _ => 0))), (u.2.2, .inl (q 0, 81, .inl (fun _ => 0)))]) := by
  intro sz_
  refine kz_goN (by decide +kernel) (Nat.le_of_ble_eq_true rfl) rfl ?_
  intro p e s m below meth c ls args A Q H locs hQ hA hH hsz X hin hZ U hl
  have hx := X.1
  have hb := X.2.1
  have hl : lv_has ls 1 [(0, .ref h)] := hl
  refine lv_aload_n hx hb kd_Pg_init_0 rfl (lv_at hl 0 rfl) ?_
  refine kz_oi X hl.1 tb_101 (Nat.le_of_ble_eq_true rfl) (Nat.le_of_ble_eq_true rfl) kd_Pg_init_1 ?_
  refine lv_aload_n hx hb kd_Pg_init_4 rfl (lv_at hl 0 rfl) ?_
  refine kz_bp X 81 kd_Pg_init_5 (by decide) ?_
  refine kz_newI X U (by decide) (Nat.le_of_ble_eq_true rfl) (Nat.le_of_ble_eq_true rfl) kd_Pg_init_7 (fun a1 H U => ?_)
  have U : kz_U D q s A [(h, .inr (3, [.null, .null, .null, .int 0])), (a1, .inl (q 0, 81, .inl (fun _ => 0)))] H locs := U
  refine kpf_Pg_9 X hin U 0 rfl (Nat.le_of_ble_eq_true rfl) kd_Pg_init_9 (fun H locs U => ?_)
  have U : kz_U D q s A [(h, .inr (3, [.ref a1, .null, .null, .int 0])), (a1, .inl (q 0, 81, .inl (fun _ => 0)))] H locs := U
  refine lv_aload_n hx hb kd_Pg_init_12 rfl (lv_at hl 0 rfl) ?_
  refine kz_bp X 81 kd_Pg_init_13 (by decide) ?_
  refine kz_newI X U (by decide) (Nat.le_of_ble_eq_true rfl) (Nat.le_of_ble_eq_true rfl) kd_Pg_init_15 (fun a2 H U => ?_)
  have U : kz_U D q s A [(h, .inr (3, [.ref a1, .null, .null, .int 0])), (a1, .inl (q 0, 81, .inl (fun _ => 0))), (a2, .inl (q 0, 81, .inl (fun _ => 0)))] H locs := U
  refine kpf_Pg_15 X hin U 0 rfl (Nat.le_of_ble_eq_true rfl) kd_Pg_init_17 (fun H locs U => ?_)
  have U : kz_U D q s A [(h, .inr (3, [.ref a1, .ref a2, .null, .int 0])), (a1, .inl (q 0, 81, .inl (fun _ => 0))), (a2, .inl (q 0, 81, .inl (fun _ => 0)))] H locs := U
  refine lv_aload_n hx hb kd_Pg_init_20 rfl (lv_at hl 0 rfl) ?_
  refine kz_bp X 81 kd_Pg_init_21 (by decide) ?_
  refine kz_newI X U (by decide) (Nat.le_of_ble_eq_true rfl) (Nat.le_of_ble_eq_true rfl) kd_Pg_init_23 (fun a3 H U => ?_)
  have U : kz_U D q s A [(h, .inr (3, [.ref a1, .ref a2, .null, .int 0])), (a1, .inl (q 0, 81, .inl (fun _ => 0))), (a2, .inl (q 0, 81, .inl (fun _ => 0))), (a3, .inl (q 0, 81, .inl (fun _ => 0)))] H locs := U
  refine kpf_Pg_18 X hin U 0 rfl (Nat.le_of_ble_eq_true rfl) kd_Pg_init_25 (fun H locs U => ?_)
  have U : kz_U D q s A [(h, .inr (3, [.ref a1, .ref a2, .ref a3, .int 0])), (a1, .inl (q 0, 81, .inl (fun _ => 0))), (a2, .inl (q 0, 81, .inl (fun _ => 0))), (a3, .inl (q 0, 81, .inl (fun _ => 0)))] H locs := U
  refine lv_aload_n hx hb kd_Pg_init_28 rfl (lv_at hl 0 rfl) ?_
  refine kz_ic X 0 kd_Pg_init_29 (by decide) ?_
  refine kp_Pg_21 X U 0 rfl (Nat.le_of_ble_eq_true rfl) kd_Pg_init_30 (fun H locs U => ?_)
  have U : kz_U D q s A [(h, .inr (3, [.ref a1, .ref a2, .ref a3, .int (nI 0)])), (a1, .inl (q 0, 81, .inl (fun _ => 0))), (a2, .inl (q 0, 81, .inl (fun _ => 0))), (a3, .inl (q 0, 81, .inl (fun _ => 0)))] H locs := U
  exact kz_evN hQ hA X U (a1, a2, a3) rfl trivial kd_Pg_init_33

set_option maxHeartbeats 4000000 in
set_option maxRecDepth 100000 in
theorem cm_Pa_init (l : Launch) (D : va_G) (q : Nat → ClassId) (h : Nat) : kz_Mn (S := Nat × Nat × Nat × Nat × Nat × Nat × (Nat → Int32) × (Nat → Int32) × (Nat → Int32)) l ky_Pa_init kb_Pa_init 1 2 6 393 D q kz_Z0 [.ref h] [(h, .inr (2, [.null, .null, .int 0, .null, .int 0]))] (fun u => kz_pg [(0, 0, 1)] u.2.2.2.2.2.2.1 u.2.2.2.2.2.2.2.1 u.2.2.2.2.2.2.2.2) (fun u => [(h, .inr (2, [.ref u.1, .ref u.2.2.2.2.1, .int (nB false), .ref u.2.2.2.2.2.1, .int (nB false)])), (u.2.2.2.2.1, .inl (q 0, 25, .inl (fun _ => 0))), (u.2.2.2.2.2.1, .inl (q 2, 121, .inl (fun _ => 0))), (u.1, .inr (3, [.ref u.2.1, .ref u.2.2.1, .ref u.2.2.2.1, .int (nI 1)])), (u.2.1, .inl (q 0, 81, .inl u.2.2.2.2.2.2.1)), (u.2.2.1, .inl (q 0, 81, .inl u.2.2.2.2.2.2.2.1)), (u.2.2.2.1, .inl (q 0, 81, .inl u.2.2.2.2.2.2.2.2))]) := by
  intro sz_
  refine kz_goN (by decide +kernel) (Nat.le_of_ble_eq_true rfl) rfl ?_
  intro p e s m below meth c ls args A Q H locs hQ hA hH hsz X hin hZ U hl
  have hx := X.1
  have hb := X.2.1
  have hl : lv_has ls 1 [(0, .ref h)] := hl
  refine lv_aload_n hx hb kd_Pa_init_0 rfl (lv_at hl 0 rfl) ?_
  refine kz_oi X hl.1 tb_95 (Nat.le_of_ble_eq_true rfl) (Nat.le_of_ble_eq_true rfl) kd_Pa_init_1 ?_
  refine lv_aload_n hx hb kd_Pa_init_4 rfl (lv_at hl 0 rfl) ?_
  refine kz_newO X U (ci := 3) (N := 4) (C := "DerivativeMatcher$Program") (T := kf_Pg) (fs := [.null, .null, .null, .int 0]) rfl ki_Pg kt_Pg ko_Pg tb_96 tb_97 tb_8 (fun j hj => match j, hj with | 0, _ => rfl | 1, _ => rfl | 2, _ => rfl | 3, _ => rfl | k + 4, h => absurd h (by omega)) (Nat.le_of_ble_eq_true rfl) (Nat.le_of_ble_eq_true rfl) kd_Pa_init_5 (fun a1 H U => ?_)
  have U : kz_U D q s A [(h, .inr (2, [.null, .null, .int 0, .null, .int 0])), (a1, .inr (3, [.null, .null, .null, .int 0]))] H locs := U
  refine lv_dup hx hb kd_Pa_init_8 rfl ?_
  refine kz_cIN (av := []) (rest := [.ref a1, .ref h]) (wr := [(h, .inr (2, [.null, .null, .int 0, .null, .int 0]))]) X U hl.1 (cm_Pg_init l D q a1) (fun _ _ _ _ _ => trivial) (fun _ _ _ => trivial) (by decide) (by decide) ⟨by decide, by decide⟩ rfl (List.mem_of_getElem? (i := 2) rfl) tb_99 tb_8 tb_100 kq_Pg_init [1] [0] (by decide) rfl rfl (by decide) (by decide) rfl (Nat.le_of_ble_eq_true rfl) ⟨(Nat.le_of_ble_eq_true rfl), (Nat.le_of_ble_eq_true rfl)⟩ kd_Pa_init_9 (fun u9 H locs hu9 U => ?_)
  obtain ⟨a2, a3, a4⟩ := u9
  have U : kz_U D q s A [(h, .inr (2, [.null, .null, .int 0, .null, .int 0])), (a1, .inr (3, [.ref a2, .ref a3, .ref a4, .int (nI 0)])), (a2, .inl (q 0, 81, .inl (fun _ => 0))), (a3, .inl (q 0, 81, .inl (fun _ => 0))), (a4, .inl (q 0, 81, .inl (fun _ => 0)))] H locs := U
  refine kp_Pa_12 X U 0 rfl (Nat.le_of_ble_eq_true rfl) kd_Pa_init_12 (fun H locs U => ?_)
  have U : kz_U D q s A [(h, .inr (2, [.ref a1, .null, .int 0, .null, .int 0])), (a1, .inr (3, [.ref a2, .ref a3, .ref a4, .int (nI 0)])), (a2, .inl (q 0, 81, .inl (fun _ => 0))), (a3, .inl (q 0, 81, .inl (fun _ => 0))), (a4, .inl (q 0, 81, .inl (fun _ => 0)))] H locs := U
  refine lv_aload_n hx hb kd_Pa_init_15 rfl (lv_at hl 0 rfl) ?_
  refine kz_bp X 25 kd_Pa_init_16 (by decide) ?_
  refine kz_newI X U (by decide) (Nat.le_of_ble_eq_true rfl) (Nat.le_of_ble_eq_true rfl) kd_Pa_init_18 (fun a5 H U => ?_)
  have U : kz_U D q s A [(h, .inr (2, [.ref a1, .null, .int 0, .null, .int 0])), (a1, .inr (3, [.ref a2, .ref a3, .ref a4, .int (nI 0)])), (a2, .inl (q 0, 81, .inl (fun _ => 0))), (a3, .inl (q 0, 81, .inl (fun _ => 0))), (a4, .inl (q 0, 81, .inl (fun _ => 0))), (a5, .inl (q 0, 25, .inl (fun _ => 0)))] H locs := U
  refine kpf_Pa_18 X hin U 0 rfl (Nat.le_of_ble_eq_true rfl) kd_Pa_init_20 (fun H locs U => ?_)
  have U : kz_U D q s A [(h, .inr (2, [.ref a1, .ref a5, .int 0, .null, .int 0])), (a1, .inr (3, [.ref a2, .ref a3, .ref a4, .int (nI 0)])), (a2, .inl (q 0, 81, .inl (fun _ => 0))), (a3, .inl (q 0, 81, .inl (fun _ => 0))), (a4, .inl (q 0, 81, .inl (fun _ => 0))), (a5, .inl (q 0, 25, .inl (fun _ => 0)))] H locs := U
  refine lv_aload_n hx hb kd_Pa_init_23 rfl (lv_at hl 0 rfl) ?_
  refine kz_ic X 0 kd_Pa_init_24 (by decide) ?_
  refine kz_top (y := nB false) rfl ?_
  refine kp_Pa_22 X U 0 rfl (Nat.le_of_ble_eq_true rfl) kd_Pa_init_25 (fun H locs U => ?_)
  have U : kz_U D q s A [(h, .inr (2, [.ref a1, .ref a5, .int (nB false), .null, .int 0])), (a1, .inr (3, [.ref a2, .ref a3, .ref a4, .int (nI 0)])), (a2, .inl (q 0, 81, .inl (fun _ => 0))), (a3, .inl (q 0, 81, .inl (fun _ => 0))), (a4, .inl (q 0, 81, .inl (fun _ => 0))), (a5, .inl (q 0, 25, .inl (fun _ => 0)))] H locs := U
  refine lv_aload_n hx hb kd_Pa_init_28 rfl (lv_at hl 0 rfl) ?_
  refine kz_bp X 121 kd_Pa_init_29 (by decide) ?_
  refine kz_newZ X U (by decide) (Nat.le_of_ble_eq_true rfl) (Nat.le_of_ble_eq_true rfl) kd_Pa_init_31 (fun a6 H U => ?_)
  have U : kz_U D q s A [(h, .inr (2, [.ref a1, .ref a5, .int (nB false), .null, .int 0])), (a1, .inr (3, [.ref a2, .ref a3, .ref a4, .int (nI 0)])), (a2, .inl (q 0, 81, .inl (fun _ => 0))), (a3, .inl (q 0, 81, .inl (fun _ => 0))), (a4, .inl (q 0, 81, .inl (fun _ => 0))), (a5, .inl (q 0, 25, .inl (fun _ => 0))), (a6, .inl (q 2, 121, .inl (fun _ => 0)))] H locs := U
  refine kpf_Pa_26 X hin U 0 rfl (Nat.le_of_ble_eq_true rfl) kd_Pa_init_33 (fun H locs U => ?_)
  have U : kz_U D q s A [(h, .inr (2, [.ref a1, .ref a5, .int (nB false), .ref a6, .int 0])), (a1, .inr (3, [.ref a2, .ref a3, .ref a4, .int (nI 0)])), (a2, .inl (q 0, 81, .inl (fun _ => 0))), (a3, .inl (q 0, 81, .inl (fun _ => 0))), (a4, .inl (q 0, 81, .inl (fun _ => 0))), (a5, .inl (q 0, 25, .inl (fun _ => 0))), (a6, .inl (q 2, 121, .inl (fun _ => 0)))] H locs := U
  refine lv_aload_n hx hb kd_Pa_init_36 rfl (lv_at hl 0 rfl) ?_
  refine kz_ic X 0 kd_Pa_init_37 (by decide) ?_
  refine kz_top (y := nB false) rfl ?_
  refine kp_Pa_30 X U 0 rfl (Nat.le_of_ble_eq_true rfl) kd_Pa_init_38 (fun H locs U => ?_)
  have U : kz_U D q s A [(h, .inr (2, [.ref a1, .ref a5, .int (nB false), .ref a6, .int (nB false)])), (a1, .inr (3, [.ref a2, .ref a3, .ref a4, .int (nI 0)])), (a2, .inl (q 0, 81, .inl (fun _ => 0))), (a3, .inl (q 0, 81, .inl (fun _ => 0))), (a4, .inl (q 0, 81, .inl (fun _ => 0))), (a5, .inl (q 0, 25, .inl (fun _ => 0))), (a6, .inl (q 2, 121, .inl (fun _ => 0)))] H locs := U
  refine lv_aload_n hx hb kd_Pa_init_41 rfl (lv_at hl 0 rfl) ?_
  refine kg_Pa_12 X U 0 rfl rfl kd_Pa_init_42 ?_
  refine kz_ic X 0 kd_Pa_init_45 (by decide) ?_
  refine kz_ic X 0 kd_Pa_init_46 (by decide) ?_
  refine kz_ic X 0 kd_Pa_init_47 (by decide) ?_
  refine kz_cVvN (av := [.int (nI 0), .int (nI 0), .int (nI 0)]) (rest := []) (wr := [(h, .inr (2, [.ref a1, .ref a5, .int (nB false), .ref a6, .int (nB false)])), (a5, .inl (q 0, 25, .inl (fun _ => 0))), (a6, .inl (q 2, 121, .inl (fun _ => 0)))]) X U hl.1 (cm_Pg_addP l D q a1 a2 a3 a4 0 0 1 (nI 0) [] (fun _ => 0) (fun _ => 0) (fun _ => 0) (pk_m1 0).symm (kz_pg_nil _ _ _)) (by decide) (by decide) ⟨by decide, by decide⟩ tb_122 tb_123 tb_124 1 rfl rfl tb_8 tb_125 kq_Pg_add [1, 2, 3, 4] [0, 5, 6] (by decide) rfl rfl (by decide) (by decide) rfl (Nat.le_of_ble_eq_true rfl) ⟨(Nat.le_of_ble_eq_true rfl), (Nat.le_of_ble_eq_true rfl)⟩ kd_Pa_init_48 (fun v H locs hv U => ?_)
  obtain ⟨f7, f8, f9⟩ := v
  have U : kz_U D q s A [(h, .inr (2, [.ref a1, .ref a5, .int (nB false), .ref a6, .int (nB false)])), (a5, .inl (q 0, 25, .inl (fun _ => 0))), (a6, .inl (q 2, 121, .inl (fun _ => 0))), (a1, .inr (3, [.ref a2, .ref a3, .ref a4, .int (nI 1)])), (a2, .inl (q 0, 81, .inl f7)), (a3, .inl (q 0, 81, .inl f8)), (a4, .inl (q 0, 81, .inl f9))] H locs := U
  exact kz_evN hQ hA X U (a1, a2, a3, a4, a5, a6, f7, f8, f9) rfl hv kd_Pa_init_51

set_option maxHeartbeats 4000000 in
set_option maxRecDepth 100000 in
theorem cm_Rd_init (l : Launch) (D : va_G) (q : Nat → ClassId) (h : Nat) : kz_Mn (S := Nat × Nat × Nat × Nat × Nat × Nat × Nat × Nat) l ky_Rd_init kb_Rd_init 1 2 8 410 D q kz_Z0 [.ref h] [(h, .inr (4, [.null, .null, .null, .int 0, .null, .int 0, .int 0, .null]))] (fun u => True) (fun u => [(h, .inr (4, [.ref u.1, .ref u.2.1, .ref u.2.2.1, .int (nI 0), .ref u.2.2.2.1, .int (nI 0), .int (nI 0), .ref u.2.2.2.2.1])), (u.1, .inl (q 0, 41, .inl (fun _ => 0))), (u.2.1, .inl (q 2, 41, .inl (fun _ => 0))), (u.2.2.1, .inl (q 2, 41, .inl (fun _ => 0))), (u.2.2.2.1, .inl (q 1, 40, .inl (fun _ => 0))), (u.2.2.2.2.1, .inr (3, [.ref u.2.2.2.2.2.1, .ref u.2.2.2.2.2.2.1, .ref u.2.2.2.2.2.2.2, .int (nI 0)])), (u.2.2.2.2.2.1, .inl (q 0, 81, .inl (fun _ => 0))), (u.2.2.2.2.2.2.1, .inl (q 0, 81, .inl (fun _ => 0))), (u.2.2.2.2.2.2.2, .inl (q 0, 81, .inl (fun _ => 0)))]) := by
  intro sz_
  refine kz_goN (by decide +kernel) (Nat.le_of_ble_eq_true rfl) rfl ?_
  intro p e s m below meth c ls args A Q H locs hQ hA hH hsz X hin hZ U hl
  have hx := X.1
  have hb := X.2.1
  have hl : lv_has ls 1 [(0, .ref h)] := hl
  refine lv_aload_n hx hb kd_Rd_init_0 rfl (lv_at hl 0 rfl) ?_
  refine kz_oi X hl.1 tb_153 (Nat.le_of_ble_eq_true rfl) (Nat.le_of_ble_eq_true rfl) kd_Rd_init_1 ?_
  refine lv_aload_n hx hb kd_Rd_init_4 rfl (lv_at hl 0 rfl) ?_
  refine kz_bp X 41 kd_Rd_init_5 (by decide) ?_
  refine kz_newI X U (by decide) (Nat.le_of_ble_eq_true rfl) (Nat.le_of_ble_eq_true rfl) kd_Rd_init_7 (fun a1 H U => ?_)
  have U : kz_U D q s A [(h, .inr (4, [.null, .null, .null, .int 0, .null, .int 0, .int 0, .null])), (a1, .inl (q 0, 41, .inl (fun _ => 0)))] H locs := U
  refine kpf_Rd_9 X hin U 0 rfl (Nat.le_of_ble_eq_true rfl) kd_Rd_init_9 (fun H locs U => ?_)
  have U : kz_U D q s A [(h, .inr (4, [.ref a1, .null, .null, .int 0, .null, .int 0, .int 0, .null])), (a1, .inl (q 0, 41, .inl (fun _ => 0)))] H locs := U
  refine lv_aload_n hx hb kd_Rd_init_12 rfl (lv_at hl 0 rfl) ?_
  refine kz_bp X 41 kd_Rd_init_13 (by decide) ?_
  refine kz_newZ X U (by decide) (Nat.le_of_ble_eq_true rfl) (Nat.le_of_ble_eq_true rfl) kd_Rd_init_15 (fun a2 H U => ?_)
  have U : kz_U D q s A [(h, .inr (4, [.ref a1, .null, .null, .int 0, .null, .int 0, .int 0, .null])), (a1, .inl (q 0, 41, .inl (fun _ => 0))), (a2, .inl (q 2, 41, .inl (fun _ => 0)))] H locs := U
  refine kpf_Rd_15 X hin U 0 rfl (Nat.le_of_ble_eq_true rfl) kd_Rd_init_17 (fun H locs U => ?_)
  have U : kz_U D q s A [(h, .inr (4, [.ref a1, .ref a2, .null, .int 0, .null, .int 0, .int 0, .null])), (a1, .inl (q 0, 41, .inl (fun _ => 0))), (a2, .inl (q 2, 41, .inl (fun _ => 0)))] H locs := U
  refine lv_aload_n hx hb kd_Rd_init_20 rfl (lv_at hl 0 rfl) ?_
  refine kz_bp X 41 kd_Rd_init_21 (by decide) ?_
  refine kz_newZ X U (by decide) (Nat.le_of_ble_eq_true rfl) (Nat.le_of_ble_eq_true rfl) kd_Rd_init_23 (fun a3 H U => ?_)
  have U : kz_U D q s A [(h, .inr (4, [.ref a1, .ref a2, .null, .int 0, .null, .int 0, .int 0, .null])), (a1, .inl (q 0, 41, .inl (fun _ => 0))), (a2, .inl (q 2, 41, .inl (fun _ => 0))), (a3, .inl (q 2, 41, .inl (fun _ => 0)))] H locs := U
  refine kpf_Rd_19 X hin U 0 rfl (Nat.le_of_ble_eq_true rfl) kd_Rd_init_25 (fun H locs U => ?_)
  have U : kz_U D q s A [(h, .inr (4, [.ref a1, .ref a2, .ref a3, .int 0, .null, .int 0, .int 0, .null])), (a1, .inl (q 0, 41, .inl (fun _ => 0))), (a2, .inl (q 2, 41, .inl (fun _ => 0))), (a3, .inl (q 2, 41, .inl (fun _ => 0)))] H locs := U
  refine lv_aload_n hx hb kd_Rd_init_28 rfl (lv_at hl 0 rfl) ?_
  refine kz_ic X 0 kd_Rd_init_29 (by decide) ?_
  refine kp_Rd_22 X U 0 rfl (Nat.le_of_ble_eq_true rfl) kd_Rd_init_30 (fun H locs U => ?_)
  have U : kz_U D q s A [(h, .inr (4, [.ref a1, .ref a2, .ref a3, .int (nI 0), .null, .int 0, .int 0, .null])), (a1, .inl (q 0, 41, .inl (fun _ => 0))), (a2, .inl (q 2, 41, .inl (fun _ => 0))), (a3, .inl (q 2, 41, .inl (fun _ => 0)))] H locs := U
  refine lv_aload_n hx hb kd_Rd_init_33 rfl (lv_at hl 0 rfl) ?_
  refine kz_bp X 40 kd_Rd_init_34 (by decide) ?_
  refine kz_newC X U (by decide) (Nat.le_of_ble_eq_true rfl) (Nat.le_of_ble_eq_true rfl) kd_Rd_init_36 (fun a4 H U => ?_)
  have U : kz_U D q s A [(h, .inr (4, [.ref a1, .ref a2, .ref a3, .int (nI 0), .null, .int 0, .int 0, .null])), (a1, .inl (q 0, 41, .inl (fun _ => 0))), (a2, .inl (q 2, 41, .inl (fun _ => 0))), (a3, .inl (q 2, 41, .inl (fun _ => 0))), (a4, .inl (q 1, 40, .inl (fun _ => 0)))] H locs := U
  refine kpf_Rd_26 X hin U 0 rfl (Nat.le_of_ble_eq_true rfl) kd_Rd_init_38 (fun H locs U => ?_)
  have U : kz_U D q s A [(h, .inr (4, [.ref a1, .ref a2, .ref a3, .int (nI 0), .ref a4, .int 0, .int 0, .null])), (a1, .inl (q 0, 41, .inl (fun _ => 0))), (a2, .inl (q 2, 41, .inl (fun _ => 0))), (a3, .inl (q 2, 41, .inl (fun _ => 0))), (a4, .inl (q 1, 40, .inl (fun _ => 0)))] H locs := U
  refine lv_aload_n hx hb kd_Rd_init_41 rfl (lv_at hl 0 rfl) ?_
  refine kz_ic X 0 kd_Rd_init_42 (by decide) ?_
  refine kp_Rd_30 X U 0 rfl (Nat.le_of_ble_eq_true rfl) kd_Rd_init_43 (fun H locs U => ?_)
  have U : kz_U D q s A [(h, .inr (4, [.ref a1, .ref a2, .ref a3, .int (nI 0), .ref a4, .int (nI 0), .int 0, .null])), (a1, .inl (q 0, 41, .inl (fun _ => 0))), (a2, .inl (q 2, 41, .inl (fun _ => 0))), (a3, .inl (q 2, 41, .inl (fun _ => 0))), (a4, .inl (q 1, 40, .inl (fun _ => 0)))] H locs := U
  refine lv_aload_n hx hb kd_Rd_init_46 rfl (lv_at hl 0 rfl) ?_
  refine kz_ic X 0 kd_Rd_init_47 (by decide) ?_
  refine kp_Rd_33 X U 0 rfl (Nat.le_of_ble_eq_true rfl) kd_Rd_init_48 (fun H locs U => ?_)
  have U : kz_U D q s A [(h, .inr (4, [.ref a1, .ref a2, .ref a3, .int (nI 0), .ref a4, .int (nI 0), .int (nI 0), .null])), (a1, .inl (q 0, 41, .inl (fun _ => 0))), (a2, .inl (q 2, 41, .inl (fun _ => 0))), (a3, .inl (q 2, 41, .inl (fun _ => 0))), (a4, .inl (q 1, 40, .inl (fun _ => 0)))] H locs := U
  refine lv_aload_n hx hb kd_Rd_init_51 rfl (lv_at hl 0 rfl) ?_
  refine kz_newO X U (ci := 3) (N := 4) (C := "DerivativeMatcher$Program") (T := kf_Pg) (fs := [.null, .null, .null, .int 0]) rfl ki_Pg kt_Pg ko_Pg tb_154 tb_97 tb_8 (fun j hj => match j, hj with | 0, _ => rfl | 1, _ => rfl | 2, _ => rfl | 3, _ => rfl | k + 4, h => absurd h (by omega)) (Nat.le_of_ble_eq_true rfl) (Nat.le_of_ble_eq_true rfl) kd_Rd_init_52 (fun a5 H U => ?_)
  have U : kz_U D q s A [(h, .inr (4, [.ref a1, .ref a2, .ref a3, .int (nI 0), .ref a4, .int (nI 0), .int (nI 0), .null])), (a1, .inl (q 0, 41, .inl (fun _ => 0))), (a2, .inl (q 2, 41, .inl (fun _ => 0))), (a3, .inl (q 2, 41, .inl (fun _ => 0))), (a4, .inl (q 1, 40, .inl (fun _ => 0))), (a5, .inr (3, [.null, .null, .null, .int 0]))] H locs := U
  refine lv_dup hx hb kd_Rd_init_55 rfl ?_
  refine kz_cIN (av := []) (rest := [.ref a5, .ref h]) (wr := [(h, .inr (4, [.ref a1, .ref a2, .ref a3, .int (nI 0), .ref a4, .int (nI 0), .int (nI 0), .null])), (a1, .inl (q 0, 41, .inl (fun _ => 0))), (a2, .inl (q 2, 41, .inl (fun _ => 0))), (a3, .inl (q 2, 41, .inl (fun _ => 0))), (a4, .inl (q 1, 40, .inl (fun _ => 0)))]) X U hl.1 (cm_Pg_init l D q a5) (fun _ _ _ _ _ => trivial) (fun _ _ _ => trivial) (by decide) (by decide) ⟨by decide, by decide⟩ rfl (List.mem_of_getElem? (i := 4) rfl) tb_99 tb_8 tb_100 kq_Pg_init [5] [0, 1, 2, 3, 4] (by decide) rfl rfl (by decide) (by decide) rfl (Nat.le_of_ble_eq_true rfl) ⟨(Nat.le_of_ble_eq_true rfl), (Nat.le_of_ble_eq_true rfl)⟩ kd_Rd_init_56 (fun u56 H locs hu56 U => ?_)
  obtain ⟨a6, a7, a8⟩ := u56
  have U : kz_U D q s A [(h, .inr (4, [.ref a1, .ref a2, .ref a3, .int (nI 0), .ref a4, .int (nI 0), .int (nI 0), .null])), (a1, .inl (q 0, 41, .inl (fun _ => 0))), (a2, .inl (q 2, 41, .inl (fun _ => 0))), (a3, .inl (q 2, 41, .inl (fun _ => 0))), (a4, .inl (q 1, 40, .inl (fun _ => 0))), (a5, .inr (3, [.ref a6, .ref a7, .ref a8, .int (nI 0)])), (a6, .inl (q 0, 81, .inl (fun _ => 0))), (a7, .inl (q 0, 81, .inl (fun _ => 0))), (a8, .inl (q 0, 81, .inl (fun _ => 0)))] H locs := U
  refine kp_Rd_39 X U 0 rfl (Nat.le_of_ble_eq_true rfl) kd_Rd_init_59 (fun H locs U => ?_)
  have U : kz_U D q s A [(h, .inr (4, [.ref a1, .ref a2, .ref a3, .int (nI 0), .ref a4, .int (nI 0), .int (nI 0), .ref a5])), (a1, .inl (q 0, 41, .inl (fun _ => 0))), (a2, .inl (q 2, 41, .inl (fun _ => 0))), (a3, .inl (q 2, 41, .inl (fun _ => 0))), (a4, .inl (q 1, 40, .inl (fun _ => 0))), (a5, .inr (3, [.ref a6, .ref a7, .ref a8, .int (nI 0)])), (a6, .inl (q 0, 81, .inl (fun _ => 0))), (a7, .inl (q 0, 81, .inl (fun _ => 0))), (a8, .inl (q 0, 81, .inl (fun _ => 0)))] H locs := U
  exact kz_evN hQ hA X U (a1, a2, a3, a4, a5, a6, a7, a8) rfl trivial kd_Rd_init_62

set_option maxHeartbeats 4000000 in
set_option maxRecDepth 100000 in
theorem cm_Mo_init (l : Launch) (D : va_G) (q : Nat → ClassId) (h : Nat) : kz_Mn (S := Nat × Nat × Nat × Nat × Nat × Nat × Nat × Nat × Nat × Nat × Nat × Nat × Nat × Nat × Nat × Nat) l ky_Mo_init kb_Mo_init 2 1 16 5834 D q kz_Z0 [.ref h] [(h, .inr (6, [.null, .int 0, .null, .int 0, .null, .int 0, .null, .null, .null, .null, .null, .int 0, .null, .null, .null, .null, .null, .int 0, .int 0, .int 0, .int 0, .null, .int 0, .null, .null, .int 0]))] (fun u => True) (fun u => [(h, .inr (6, [.ref u.1, .int 0, .ref u.2.1, .int 0, .ref u.2.2.1, .int 0, .ref u.2.2.2.1, .ref u.2.2.2.2.1, .ref u.2.2.2.2.2.1, .ref u.2.2.2.2.2.2.1, .ref u.2.2.2.2.2.2.2.1, .int 0, .ref u.2.2.2.2.2.2.2.2.1, .ref u.2.2.2.2.2.2.2.2.2.1, .ref u.2.2.2.2.2.2.2.2.2.2.1, .ref u.2.2.2.2.2.2.2.2.2.2.2.1, .ref u.2.2.2.2.2.2.2.2.2.2.2.2.1, .int 0, .int 0, .int 0, .int 0, .ref u.2.2.2.2.2.2.2.2.2.2.2.2.2.1, .int 0, .ref u.2.2.2.2.2.2.2.2.2.2.2.2.2.2.1, .ref u.2.2.2.2.2.2.2.2.2.2.2.2.2.2.2, .int 0])), (u.1, .inl (q 0, 40, .inl (fun _ => 0))), (u.2.1, .inl (q 0, 24, .inl (fun _ => 0))), (u.2.2.1, .inl (q 0, 4, .inl (fun _ => 0))), (u.2.2.2.1, .inl (q 0, 3, .inl (upd (upd (fun _ => 0) 0 (nI 1)) 1 (nI 1)))), (u.2.2.2.2.1, .inl (q 0, 384, .inl (upd (upd (fun _ => 0) 0 (nI 0)) 128 (nI 0)))), (u.2.2.2.2.2.1, .inl (q 0, 384, .inl (fun _ => 0))), (u.2.2.2.2.2.2.1, .inl (q 0, 384, .inl (fun _ => 0))), (u.2.2.2.2.2.2.2.1, .inl (q 0, 1152, .inl (fun _ => 0))), (u.2.2.2.2.2.2.2.2.1, .inl (q 0, 42, .inl (fun _ => 0))), (u.2.2.2.2.2.2.2.2.2.1, .inl (q 0, 42, .inl (fun _ => 0))), (u.2.2.2.2.2.2.2.2.2.2.1, .inl (q 0, 42, .inl (fun _ => 0))), (u.2.2.2.2.2.2.2.2.2.2.2.1, .inl (q 0, 42, .inl (fun _ => 0))), (u.2.2.2.2.2.2.2.2.2.2.2.2.1, .inl (q 0, 42, .inl (fun _ => 0))), (u.2.2.2.2.2.2.2.2.2.2.2.2.2.1, .inl (q 0, 24, .inl (fun _ => 0))), (u.2.2.2.2.2.2.2.2.2.2.2.2.2.2.1, .inl (q 0, 3200, .inl (fun _ => 0))), (u.2.2.2.2.2.2.2.2.2.2.2.2.2.2.2, .inl (q 0, 25, .inl (fun _ => 0)))]) := by
  intro sz_
  refine kz_goN (by decide +kernel) (Nat.le_of_ble_eq_true rfl) rfl ?_
  intro p e s m below meth c ls args A Q H locs hQ hA hH hsz X hin hZ U hl
  have hx := X.1
  have hb := X.2.1
  have hl : lv_has ls 2 [(0, .ref h)] := hl
  refine lv_aload_n hx hb kd_Mo_init_0 rfl (lv_at hl 0 rfl) ?_
  refine kz_oi X hl.1 tb_435 (Nat.le_of_ble_eq_true rfl) (Nat.le_of_ble_eq_true rfl) kd_Mo_init_1 ?_
  refine lv_aload_n hx hb kd_Mo_init_4 rfl (lv_at hl 0 rfl) ?_
  refine kz_bp X 40 kd_Mo_init_5 (by decide) ?_
  refine kz_newI X U (by decide) (Nat.le_of_ble_eq_true rfl) (Nat.le_of_ble_eq_true rfl) kd_Mo_init_7 (fun a1 H U => ?_)
  have U : kz_U D q s A [(h, .inr (6, [.null, .int 0, .null, .int 0, .null, .int 0, .null, .null, .null, .null, .null, .int 0, .null, .null, .null, .null, .null, .int 0, .int 0, .int 0, .int 0, .null, .int 0, .null, .null, .int 0])), (a1, .inl (q 0, 40, .inl (fun _ => 0)))] H locs := U
  refine kpf_Mo_7 X hin U 0 rfl (Nat.le_of_ble_eq_true rfl) kd_Mo_init_9 (fun H locs U => ?_)
  have U : kz_U D q s A [(h, .inr (6, [.ref a1, .int 0, .null, .int 0, .null, .int 0, .null, .null, .null, .null, .null, .int 0, .null, .null, .null, .null, .null, .int 0, .int 0, .int 0, .int 0, .null, .int 0, .null, .null, .int 0])), (a1, .inl (q 0, 40, .inl (fun _ => 0)))] H locs := U
  refine lv_aload_n hx hb kd_Mo_init_12 rfl (lv_at hl 0 rfl) ?_
  refine kz_bp X 24 kd_Mo_init_13 (by decide) ?_
  refine kz_newI X U (by decide) (Nat.le_of_ble_eq_true rfl) (Nat.le_of_ble_eq_true rfl) kd_Mo_init_15 (fun a2 H U => ?_)
  have U : kz_U D q s A [(h, .inr (6, [.ref a1, .int 0, .null, .int 0, .null, .int 0, .null, .null, .null, .null, .null, .int 0, .null, .null, .null, .null, .null, .int 0, .int 0, .int 0, .int 0, .null, .int 0, .null, .null, .int 0])), (a1, .inl (q 0, 40, .inl (fun _ => 0))), (a2, .inl (q 0, 24, .inl (fun _ => 0)))] H locs := U
  refine kpf_Mo_13 X hin U 0 rfl (Nat.le_of_ble_eq_true rfl) kd_Mo_init_17 (fun H locs U => ?_)
  have U : kz_U D q s A [(h, .inr (6, [.ref a1, .int 0, .ref a2, .int 0, .null, .int 0, .null, .null, .null, .null, .null, .int 0, .null, .null, .null, .null, .null, .int 0, .int 0, .int 0, .int 0, .null, .int 0, .null, .null, .int 0])), (a1, .inl (q 0, 40, .inl (fun _ => 0))), (a2, .inl (q 0, 24, .inl (fun _ => 0)))] H locs := U
  refine lv_aload_n hx hb kd_Mo_init_20 rfl (lv_at hl 0 rfl) ?_
  refine kz_ic X 4 kd_Mo_init_21 (by decide) ?_
  refine kz_newI X U (by decide) (Nat.le_of_ble_eq_true rfl) (Nat.le_of_ble_eq_true rfl) kd_Mo_init_22 (fun a3 H U => ?_)
  have U : kz_U D q s A [(h, .inr (6, [.ref a1, .int 0, .ref a2, .int 0, .null, .int 0, .null, .null, .null, .null, .null, .int 0, .null, .null, .null, .null, .null, .int 0, .int 0, .int 0, .int 0, .null, .int 0, .null, .null, .int 0])), (a1, .inl (q 0, 40, .inl (fun _ => 0))), (a2, .inl (q 0, 24, .inl (fun _ => 0))), (a3, .inl (q 0, 4, .inl (fun _ => 0)))] H locs := U
  refine kpf_Mo_16 X hin U 0 rfl (Nat.le_of_ble_eq_true rfl) kd_Mo_init_24 (fun H locs U => ?_)
  have U : kz_U D q s A [(h, .inr (6, [.ref a1, .int 0, .ref a2, .int 0, .ref a3, .int 0, .null, .null, .null, .null, .null, .int 0, .null, .null, .null, .null, .null, .int 0, .int 0, .int 0, .int 0, .null, .int 0, .null, .null, .int 0])), (a1, .inl (q 0, 40, .inl (fun _ => 0))), (a2, .inl (q 0, 24, .inl (fun _ => 0))), (a3, .inl (q 0, 4, .inl (fun _ => 0)))] H locs := U
  refine lv_aload_n hx hb kd_Mo_init_27 rfl (lv_at hl 0 rfl) ?_
  refine kz_ic X 3 kd_Mo_init_28 (by decide) ?_
  refine kz_newI X U (by decide) (Nat.le_of_ble_eq_true rfl) (Nat.le_of_ble_eq_true rfl) kd_Mo_init_29 (fun a4 H U => ?_)
  have U : kz_U D q s A [(h, .inr (6, [.ref a1, .int 0, .ref a2, .int 0, .ref a3, .int 0, .null, .null, .null, .null, .null, .int 0, .null, .null, .null, .null, .null, .int 0, .int 0, .int 0, .int 0, .null, .int 0, .null, .null, .int 0])), (a1, .inl (q 0, 40, .inl (fun _ => 0))), (a2, .inl (q 0, 24, .inl (fun _ => 0))), (a3, .inl (q 0, 4, .inl (fun _ => 0))), (a4, .inl (q 0, 3, .inl (fun _ => 0)))] H locs := U
  refine kpf_Mo_19 X hin U 0 rfl (Nat.le_of_ble_eq_true rfl) kd_Mo_init_31 (fun H locs U => ?_)
  have U : kz_U D q s A [(h, .inr (6, [.ref a1, .int 0, .ref a2, .int 0, .ref a3, .int 0, .ref a4, .null, .null, .null, .null, .int 0, .null, .null, .null, .null, .null, .int 0, .int 0, .int 0, .int 0, .null, .int 0, .null, .null, .int 0])), (a1, .inl (q 0, 40, .inl (fun _ => 0))), (a2, .inl (q 0, 24, .inl (fun _ => 0))), (a3, .inl (q 0, 4, .inl (fun _ => 0))), (a4, .inl (q 0, 3, .inl (fun _ => 0)))] H locs := U
  refine lv_aload_n hx hb kd_Mo_init_34 rfl (lv_at hl 0 rfl) ?_
  refine kz_sp X 384 kd_Mo_init_35 (by decide) ?_
  refine kz_newI X U (by decide) (Nat.le_of_ble_eq_true rfl) (Nat.le_of_ble_eq_true rfl) kd_Mo_init_38 (fun a5 H U => ?_)
  have U : kz_U D q s A [(h, .inr (6, [.ref a1, .int 0, .ref a2, .int 0, .ref a3, .int 0, .ref a4, .null, .null, .null, .null, .int 0, .null, .null, .null, .null, .null, .int 0, .int 0, .int 0, .int 0, .null, .int 0, .null, .null, .int 0])), (a1, .inl (q 0, 40, .inl (fun _ => 0))), (a2, .inl (q 0, 24, .inl (fun _ => 0))), (a3, .inl (q 0, 4, .inl (fun _ => 0))), (a4, .inl (q 0, 3, .inl (fun _ => 0))), (a5, .inl (q 0, 384, .inl (fun _ => 0)))] H locs := U
  refine kpf_Mo_22 X hin U 0 rfl (Nat.le_of_ble_eq_true rfl) kd_Mo_init_40 (fun H locs U => ?_)
  have U : kz_U D q s A [(h, .inr (6, [.ref a1, .int 0, .ref a2, .int 0, .ref a3, .int 0, .ref a4, .ref a5, .null, .null, .null, .int 0, .null, .null, .null, .null, .null, .int 0, .int 0, .int 0, .int 0, .null, .int 0, .null, .null, .int 0])), (a1, .inl (q 0, 40, .inl (fun _ => 0))), (a2, .inl (q 0, 24, .inl (fun _ => 0))), (a3, .inl (q 0, 4, .inl (fun _ => 0))), (a4, .inl (q 0, 3, .inl (fun _ => 0))), (a5, .inl (q 0, 384, .inl (fun _ => 0)))] H locs := U
  refine lv_aload_n hx hb kd_Mo_init_43 rfl (lv_at hl 0 rfl) ?_
  refine kz_sp X 384 kd_Mo_init_44 (by decide) ?_
  refine kz_newI X U (by decide) (Nat.le_of_ble_eq_true rfl) (Nat.le_of_ble_eq_true rfl) kd_Mo_init_47 (fun a6 H U => ?_)
  have U : kz_U D q s A [(h, .inr (6, [.ref a1, .int 0, .ref a2, .int 0, .ref a3, .int 0, .ref a4, .ref a5, .null, .null, .null, .int 0, .null, .null, .null, .null, .null, .int 0, .int 0, .int 0, .int 0, .null, .int 0, .null, .null, .int 0])), (a1, .inl (q 0, 40, .inl (fun _ => 0))), (a2, .inl (q 0, 24, .inl (fun _ => 0))), (a3, .inl (q 0, 4, .inl (fun _ => 0))), (a4, .inl (q 0, 3, .inl (fun _ => 0))), (a5, .inl (q 0, 384, .inl (fun _ => 0))), (a6, .inl (q 0, 384, .inl (fun _ => 0)))] H locs := U
  refine kpf_Mo_25 X hin U 0 rfl (Nat.le_of_ble_eq_true rfl) kd_Mo_init_49 (fun H locs U => ?_)
  have U : kz_U D q s A [(h, .inr (6, [.ref a1, .int 0, .ref a2, .int 0, .ref a3, .int 0, .ref a4, .ref a5, .ref a6, .null, .null, .int 0, .null, .null, .null, .null, .null, .int 0, .int 0, .int 0, .int 0, .null, .int 0, .null, .null, .int 0])), (a1, .inl (q 0, 40, .inl (fun _ => 0))), (a2, .inl (q 0, 24, .inl (fun _ => 0))), (a3, .inl (q 0, 4, .inl (fun _ => 0))), (a4, .inl (q 0, 3, .inl (fun _ => 0))), (a5, .inl (q 0, 384, .inl (fun _ => 0))), (a6, .inl (q 0, 384, .inl (fun _ => 0)))] H locs := U
  refine lv_aload_n hx hb kd_Mo_init_52 rfl (lv_at hl 0 rfl) ?_
  refine kz_sp X 384 kd_Mo_init_53 (by decide) ?_
  refine kz_newI X U (by decide) (Nat.le_of_ble_eq_true rfl) (Nat.le_of_ble_eq_true rfl) kd_Mo_init_56 (fun a7 H U => ?_)
  have U : kz_U D q s A [(h, .inr (6, [.ref a1, .int 0, .ref a2, .int 0, .ref a3, .int 0, .ref a4, .ref a5, .ref a6, .null, .null, .int 0, .null, .null, .null, .null, .null, .int 0, .int 0, .int 0, .int 0, .null, .int 0, .null, .null, .int 0])), (a1, .inl (q 0, 40, .inl (fun _ => 0))), (a2, .inl (q 0, 24, .inl (fun _ => 0))), (a3, .inl (q 0, 4, .inl (fun _ => 0))), (a4, .inl (q 0, 3, .inl (fun _ => 0))), (a5, .inl (q 0, 384, .inl (fun _ => 0))), (a6, .inl (q 0, 384, .inl (fun _ => 0))), (a7, .inl (q 0, 384, .inl (fun _ => 0)))] H locs := U
  refine kpf_Mo_28 X hin U 0 rfl (Nat.le_of_ble_eq_true rfl) kd_Mo_init_58 (fun H locs U => ?_)
  have U : kz_U D q s A [(h, .inr (6, [.ref a1, .int 0, .ref a2, .int 0, .ref a3, .int 0, .ref a4, .ref a5, .ref a6, .ref a7, .null, .int 0, .null, .null, .null, .null, .null, .int 0, .int 0, .int 0, .int 0, .null, .int 0, .null, .null, .int 0])), (a1, .inl (q 0, 40, .inl (fun _ => 0))), (a2, .inl (q 0, 24, .inl (fun _ => 0))), (a3, .inl (q 0, 4, .inl (fun _ => 0))), (a4, .inl (q 0, 3, .inl (fun _ => 0))), (a5, .inl (q 0, 384, .inl (fun _ => 0))), (a6, .inl (q 0, 384, .inl (fun _ => 0))), (a7, .inl (q 0, 384, .inl (fun _ => 0)))] H locs := U
  refine lv_aload_n hx hb kd_Mo_init_61 rfl (lv_at hl 0 rfl) ?_
  refine kz_sp X 1152 kd_Mo_init_62 (by decide) ?_
  refine kz_newI X U (by decide) (Nat.le_of_ble_eq_true rfl) (Nat.le_of_ble_eq_true rfl) kd_Mo_init_65 (fun a8 H U => ?_)
  have U : kz_U D q s A [(h, .inr (6, [.ref a1, .int 0, .ref a2, .int 0, .ref a3, .int 0, .ref a4, .ref a5, .ref a6, .ref a7, .null, .int 0, .null, .null, .null, .null, .null, .int 0, .int 0, .int 0, .int 0, .null, .int 0, .null, .null, .int 0])), (a1, .inl (q 0, 40, .inl (fun _ => 0))), (a2, .inl (q 0, 24, .inl (fun _ => 0))), (a3, .inl (q 0, 4, .inl (fun _ => 0))), (a4, .inl (q 0, 3, .inl (fun _ => 0))), (a5, .inl (q 0, 384, .inl (fun _ => 0))), (a6, .inl (q 0, 384, .inl (fun _ => 0))), (a7, .inl (q 0, 384, .inl (fun _ => 0))), (a8, .inl (q 0, 1152, .inl (fun _ => 0)))] H locs := U
  refine kpf_Mo_31 X hin U 0 rfl (Nat.le_of_ble_eq_true rfl) kd_Mo_init_67 (fun H locs U => ?_)
  have U : kz_U D q s A [(h, .inr (6, [.ref a1, .int 0, .ref a2, .int 0, .ref a3, .int 0, .ref a4, .ref a5, .ref a6, .ref a7, .ref a8, .int 0, .null, .null, .null, .null, .null, .int 0, .int 0, .int 0, .int 0, .null, .int 0, .null, .null, .int 0])), (a1, .inl (q 0, 40, .inl (fun _ => 0))), (a2, .inl (q 0, 24, .inl (fun _ => 0))), (a3, .inl (q 0, 4, .inl (fun _ => 0))), (a4, .inl (q 0, 3, .inl (fun _ => 0))), (a5, .inl (q 0, 384, .inl (fun _ => 0))), (a6, .inl (q 0, 384, .inl (fun _ => 0))), (a7, .inl (q 0, 384, .inl (fun _ => 0))), (a8, .inl (q 0, 1152, .inl (fun _ => 0)))] H locs := U
  refine lv_aload_n hx hb kd_Mo_init_70 rfl (lv_at hl 0 rfl) ?_
  refine kz_bp X 42 kd_Mo_init_71 (by decide) ?_
  refine kz_newI X U (by decide) (Nat.le_of_ble_eq_true rfl) (Nat.le_of_ble_eq_true rfl) kd_Mo_init_73 (fun a9 H U => ?_)
  have U : kz_U D q s A [(h, .inr (6, [.ref a1, .int 0, .ref a2, .int 0, .ref a3, .int 0, .ref a4, .ref a5, .ref a6, .ref a7, .ref a8, .int 0, .null, .null, .null, .null, .null, .int 0, .int 0, .int 0, .int 0, .null, .int 0, .null, .null, .int 0])), (a1, .inl (q 0, 40, .inl (fun _ => 0))), (a2, .inl (q 0, 24, .inl (fun _ => 0))), (a3, .inl (q 0, 4, .inl (fun _ => 0))), (a4, .inl (q 0, 3, .inl (fun _ => 0))), (a5, .inl (q 0, 384, .inl (fun _ => 0))), (a6, .inl (q 0, 384, .inl (fun _ => 0))), (a7, .inl (q 0, 384, .inl (fun _ => 0))), (a8, .inl (q 0, 1152, .inl (fun _ => 0))), (a9, .inl (q 0, 42, .inl (fun _ => 0)))] H locs := U
  refine kpf_Mo_34 X hin U 0 rfl (Nat.le_of_ble_eq_true rfl) kd_Mo_init_75 (fun H locs U => ?_)
  have U : kz_U D q s A [(h, .inr (6, [.ref a1, .int 0, .ref a2, .int 0, .ref a3, .int 0, .ref a4, .ref a5, .ref a6, .ref a7, .ref a8, .int 0, .ref a9, .null, .null, .null, .null, .int 0, .int 0, .int 0, .int 0, .null, .int 0, .null, .null, .int 0])), (a1, .inl (q 0, 40, .inl (fun _ => 0))), (a2, .inl (q 0, 24, .inl (fun _ => 0))), (a3, .inl (q 0, 4, .inl (fun _ => 0))), (a4, .inl (q 0, 3, .inl (fun _ => 0))), (a5, .inl (q 0, 384, .inl (fun _ => 0))), (a6, .inl (q 0, 384, .inl (fun _ => 0))), (a7, .inl (q 0, 384, .inl (fun _ => 0))), (a8, .inl (q 0, 1152, .inl (fun _ => 0))), (a9, .inl (q 0, 42, .inl (fun _ => 0)))] H locs := U
  refine lv_aload_n hx hb kd_Mo_init_78 rfl (lv_at hl 0 rfl) ?_
  refine kz_bp X 42 kd_Mo_init_79 (by decide) ?_
  refine kz_newI X U (by decide) (Nat.le_of_ble_eq_true rfl) (Nat.le_of_ble_eq_true rfl) kd_Mo_init_81 (fun a10 H U => ?_)
  have U : kz_U D q s A [(h, .inr (6, [.ref a1, .int 0, .ref a2, .int 0, .ref a3, .int 0, .ref a4, .ref a5, .ref a6, .ref a7, .ref a8, .int 0, .ref a9, .null, .null, .null, .null, .int 0, .int 0, .int 0, .int 0, .null, .int 0, .null, .null, .int 0])), (a1, .inl (q 0, 40, .inl (fun _ => 0))), (a2, .inl (q 0, 24, .inl (fun _ => 0))), (a3, .inl (q 0, 4, .inl (fun _ => 0))), (a4, .inl (q 0, 3, .inl (fun _ => 0))), (a5, .inl (q 0, 384, .inl (fun _ => 0))), (a6, .inl (q 0, 384, .inl (fun _ => 0))), (a7, .inl (q 0, 384, .inl (fun _ => 0))), (a8, .inl (q 0, 1152, .inl (fun _ => 0))), (a9, .inl (q 0, 42, .inl (fun _ => 0))), (a10, .inl (q 0, 42, .inl (fun _ => 0)))] H locs := U
  refine kpf_Mo_37 X hin U 0 rfl (Nat.le_of_ble_eq_true rfl) kd_Mo_init_83 (fun H locs U => ?_)
  have U : kz_U D q s A [(h, .inr (6, [.ref a1, .int 0, .ref a2, .int 0, .ref a3, .int 0, .ref a4, .ref a5, .ref a6, .ref a7, .ref a8, .int 0, .ref a9, .ref a10, .null, .null, .null, .int 0, .int 0, .int 0, .int 0, .null, .int 0, .null, .null, .int 0])), (a1, .inl (q 0, 40, .inl (fun _ => 0))), (a2, .inl (q 0, 24, .inl (fun _ => 0))), (a3, .inl (q 0, 4, .inl (fun _ => 0))), (a4, .inl (q 0, 3, .inl (fun _ => 0))), (a5, .inl (q 0, 384, .inl (fun _ => 0))), (a6, .inl (q 0, 384, .inl (fun _ => 0))), (a7, .inl (q 0, 384, .inl (fun _ => 0))), (a8, .inl (q 0, 1152, .inl (fun _ => 0))), (a9, .inl (q 0, 42, .inl (fun _ => 0))), (a10, .inl (q 0, 42, .inl (fun _ => 0)))] H locs := U
  refine lv_aload_n hx hb kd_Mo_init_86 rfl (lv_at hl 0 rfl) ?_
  refine kz_bp X 42 kd_Mo_init_87 (by decide) ?_
  refine kz_newI X U (by decide) (Nat.le_of_ble_eq_true rfl) (Nat.le_of_ble_eq_true rfl) kd_Mo_init_89 (fun a11 H U => ?_)
  have U : kz_U D q s A [(h, .inr (6, [.ref a1, .int 0, .ref a2, .int 0, .ref a3, .int 0, .ref a4, .ref a5, .ref a6, .ref a7, .ref a8, .int 0, .ref a9, .ref a10, .null, .null, .null, .int 0, .int 0, .int 0, .int 0, .null, .int 0, .null, .null, .int 0])), (a1, .inl (q 0, 40, .inl (fun _ => 0))), (a2, .inl (q 0, 24, .inl (fun _ => 0))), (a3, .inl (q 0, 4, .inl (fun _ => 0))), (a4, .inl (q 0, 3, .inl (fun _ => 0))), (a5, .inl (q 0, 384, .inl (fun _ => 0))), (a6, .inl (q 0, 384, .inl (fun _ => 0))), (a7, .inl (q 0, 384, .inl (fun _ => 0))), (a8, .inl (q 0, 1152, .inl (fun _ => 0))), (a9, .inl (q 0, 42, .inl (fun _ => 0))), (a10, .inl (q 0, 42, .inl (fun _ => 0))), (a11, .inl (q 0, 42, .inl (fun _ => 0)))] H locs := U
  refine kpf_Mo_40 X hin U 0 rfl (Nat.le_of_ble_eq_true rfl) kd_Mo_init_91 (fun H locs U => ?_)
  have U : kz_U D q s A [(h, .inr (6, [.ref a1, .int 0, .ref a2, .int 0, .ref a3, .int 0, .ref a4, .ref a5, .ref a6, .ref a7, .ref a8, .int 0, .ref a9, .ref a10, .ref a11, .null, .null, .int 0, .int 0, .int 0, .int 0, .null, .int 0, .null, .null, .int 0])), (a1, .inl (q 0, 40, .inl (fun _ => 0))), (a2, .inl (q 0, 24, .inl (fun _ => 0))), (a3, .inl (q 0, 4, .inl (fun _ => 0))), (a4, .inl (q 0, 3, .inl (fun _ => 0))), (a5, .inl (q 0, 384, .inl (fun _ => 0))), (a6, .inl (q 0, 384, .inl (fun _ => 0))), (a7, .inl (q 0, 384, .inl (fun _ => 0))), (a8, .inl (q 0, 1152, .inl (fun _ => 0))), (a9, .inl (q 0, 42, .inl (fun _ => 0))), (a10, .inl (q 0, 42, .inl (fun _ => 0))), (a11, .inl (q 0, 42, .inl (fun _ => 0)))] H locs := U
  refine lv_aload_n hx hb kd_Mo_init_94 rfl (lv_at hl 0 rfl) ?_
  refine kz_bp X 42 kd_Mo_init_95 (by decide) ?_
  refine kz_newI X U (by decide) (Nat.le_of_ble_eq_true rfl) (Nat.le_of_ble_eq_true rfl) kd_Mo_init_97 (fun a12 H U => ?_)
  have U : kz_U D q s A [(h, .inr (6, [.ref a1, .int 0, .ref a2, .int 0, .ref a3, .int 0, .ref a4, .ref a5, .ref a6, .ref a7, .ref a8, .int 0, .ref a9, .ref a10, .ref a11, .null, .null, .int 0, .int 0, .int 0, .int 0, .null, .int 0, .null, .null, .int 0])), (a1, .inl (q 0, 40, .inl (fun _ => 0))), (a2, .inl (q 0, 24, .inl (fun _ => 0))), (a3, .inl (q 0, 4, .inl (fun _ => 0))), (a4, .inl (q 0, 3, .inl (fun _ => 0))), (a5, .inl (q 0, 384, .inl (fun _ => 0))), (a6, .inl (q 0, 384, .inl (fun _ => 0))), (a7, .inl (q 0, 384, .inl (fun _ => 0))), (a8, .inl (q 0, 1152, .inl (fun _ => 0))), (a9, .inl (q 0, 42, .inl (fun _ => 0))), (a10, .inl (q 0, 42, .inl (fun _ => 0))), (a11, .inl (q 0, 42, .inl (fun _ => 0))), (a12, .inl (q 0, 42, .inl (fun _ => 0)))] H locs := U
  refine kpf_Mo_43 X hin U 0 rfl (Nat.le_of_ble_eq_true rfl) kd_Mo_init_99 (fun H locs U => ?_)
  have U : kz_U D q s A [(h, .inr (6, [.ref a1, .int 0, .ref a2, .int 0, .ref a3, .int 0, .ref a4, .ref a5, .ref a6, .ref a7, .ref a8, .int 0, .ref a9, .ref a10, .ref a11, .ref a12, .null, .int 0, .int 0, .int 0, .int 0, .null, .int 0, .null, .null, .int 0])), (a1, .inl (q 0, 40, .inl (fun _ => 0))), (a2, .inl (q 0, 24, .inl (fun _ => 0))), (a3, .inl (q 0, 4, .inl (fun _ => 0))), (a4, .inl (q 0, 3, .inl (fun _ => 0))), (a5, .inl (q 0, 384, .inl (fun _ => 0))), (a6, .inl (q 0, 384, .inl (fun _ => 0))), (a7, .inl (q 0, 384, .inl (fun _ => 0))), (a8, .inl (q 0, 1152, .inl (fun _ => 0))), (a9, .inl (q 0, 42, .inl (fun _ => 0))), (a10, .inl (q 0, 42, .inl (fun _ => 0))), (a11, .inl (q 0, 42, .inl (fun _ => 0))), (a12, .inl (q 0, 42, .inl (fun _ => 0)))] H locs := U
  refine lv_aload_n hx hb kd_Mo_init_102 rfl (lv_at hl 0 rfl) ?_
  refine kz_bp X 42 kd_Mo_init_103 (by decide) ?_
  refine kz_newI X U (by decide) (Nat.le_of_ble_eq_true rfl) (Nat.le_of_ble_eq_true rfl) kd_Mo_init_105 (fun a13 H U => ?_)
  have U : kz_U D q s A [(h, .inr (6, [.ref a1, .int 0, .ref a2, .int 0, .ref a3, .int 0, .ref a4, .ref a5, .ref a6, .ref a7, .ref a8, .int 0, .ref a9, .ref a10, .ref a11, .ref a12, .null, .int 0, .int 0, .int 0, .int 0, .null, .int 0, .null, .null, .int 0])), (a1, .inl (q 0, 40, .inl (fun _ => 0))), (a2, .inl (q 0, 24, .inl (fun _ => 0))), (a3, .inl (q 0, 4, .inl (fun _ => 0))), (a4, .inl (q 0, 3, .inl (fun _ => 0))), (a5, .inl (q 0, 384, .inl (fun _ => 0))), (a6, .inl (q 0, 384, .inl (fun _ => 0))), (a7, .inl (q 0, 384, .inl (fun _ => 0))), (a8, .inl (q 0, 1152, .inl (fun _ => 0))), (a9, .inl (q 0, 42, .inl (fun _ => 0))), (a10, .inl (q 0, 42, .inl (fun _ => 0))), (a11, .inl (q 0, 42, .inl (fun _ => 0))), (a12, .inl (q 0, 42, .inl (fun _ => 0))), (a13, .inl (q 0, 42, .inl (fun _ => 0)))] H locs := U
  refine kpf_Mo_46 X hin U 0 rfl (Nat.le_of_ble_eq_true rfl) kd_Mo_init_107 (fun H locs U => ?_)
  have U : kz_U D q s A [(h, .inr (6, [.ref a1, .int 0, .ref a2, .int 0, .ref a3, .int 0, .ref a4, .ref a5, .ref a6, .ref a7, .ref a8, .int 0, .ref a9, .ref a10, .ref a11, .ref a12, .ref a13, .int 0, .int 0, .int 0, .int 0, .null, .int 0, .null, .null, .int 0])), (a1, .inl (q 0, 40, .inl (fun _ => 0))), (a2, .inl (q 0, 24, .inl (fun _ => 0))), (a3, .inl (q 0, 4, .inl (fun _ => 0))), (a4, .inl (q 0, 3, .inl (fun _ => 0))), (a5, .inl (q 0, 384, .inl (fun _ => 0))), (a6, .inl (q 0, 384, .inl (fun _ => 0))), (a7, .inl (q 0, 384, .inl (fun _ => 0))), (a8, .inl (q 0, 1152, .inl (fun _ => 0))), (a9, .inl (q 0, 42, .inl (fun _ => 0))), (a10, .inl (q 0, 42, .inl (fun _ => 0))), (a11, .inl (q 0, 42, .inl (fun _ => 0))), (a12, .inl (q 0, 42, .inl (fun _ => 0))), (a13, .inl (q 0, 42, .inl (fun _ => 0)))] H locs := U
  refine lv_aload_n hx hb kd_Mo_init_110 rfl (lv_at hl 0 rfl) ?_
  refine kz_bp X 24 kd_Mo_init_111 (by decide) ?_
  refine kz_newI X U (by decide) (Nat.le_of_ble_eq_true rfl) (Nat.le_of_ble_eq_true rfl) kd_Mo_init_113 (fun a14 H U => ?_)
  have U : kz_U D q s A [(h, .inr (6, [.ref a1, .int 0, .ref a2, .int 0, .ref a3, .int 0, .ref a4, .ref a5, .ref a6, .ref a7, .ref a8, .int 0, .ref a9, .ref a10, .ref a11, .ref a12, .ref a13, .int 0, .int 0, .int 0, .int 0, .null, .int 0, .null, .null, .int 0])), (a1, .inl (q 0, 40, .inl (fun _ => 0))), (a2, .inl (q 0, 24, .inl (fun _ => 0))), (a3, .inl (q 0, 4, .inl (fun _ => 0))), (a4, .inl (q 0, 3, .inl (fun _ => 0))), (a5, .inl (q 0, 384, .inl (fun _ => 0))), (a6, .inl (q 0, 384, .inl (fun _ => 0))), (a7, .inl (q 0, 384, .inl (fun _ => 0))), (a8, .inl (q 0, 1152, .inl (fun _ => 0))), (a9, .inl (q 0, 42, .inl (fun _ => 0))), (a10, .inl (q 0, 42, .inl (fun _ => 0))), (a11, .inl (q 0, 42, .inl (fun _ => 0))), (a12, .inl (q 0, 42, .inl (fun _ => 0))), (a13, .inl (q 0, 42, .inl (fun _ => 0))), (a14, .inl (q 0, 24, .inl (fun _ => 0)))] H locs := U
  refine kpf_Mo_49 X hin U 0 rfl (Nat.le_of_ble_eq_true rfl) kd_Mo_init_115 (fun H locs U => ?_)
  have U : kz_U D q s A [(h, .inr (6, [.ref a1, .int 0, .ref a2, .int 0, .ref a3, .int 0, .ref a4, .ref a5, .ref a6, .ref a7, .ref a8, .int 0, .ref a9, .ref a10, .ref a11, .ref a12, .ref a13, .int 0, .int 0, .int 0, .int 0, .ref a14, .int 0, .null, .null, .int 0])), (a1, .inl (q 0, 40, .inl (fun _ => 0))), (a2, .inl (q 0, 24, .inl (fun _ => 0))), (a3, .inl (q 0, 4, .inl (fun _ => 0))), (a4, .inl (q 0, 3, .inl (fun _ => 0))), (a5, .inl (q 0, 384, .inl (fun _ => 0))), (a6, .inl (q 0, 384, .inl (fun _ => 0))), (a7, .inl (q 0, 384, .inl (fun _ => 0))), (a8, .inl (q 0, 1152, .inl (fun _ => 0))), (a9, .inl (q 0, 42, .inl (fun _ => 0))), (a10, .inl (q 0, 42, .inl (fun _ => 0))), (a11, .inl (q 0, 42, .inl (fun _ => 0))), (a12, .inl (q 0, 42, .inl (fun _ => 0))), (a13, .inl (q 0, 42, .inl (fun _ => 0))), (a14, .inl (q 0, 24, .inl (fun _ => 0)))] H locs := U
  refine lv_aload_n hx hb kd_Mo_init_118 rfl (lv_at hl 0 rfl) ?_
  refine kz_sp X 3200 kd_Mo_init_119 (by decide) ?_
  refine kz_newI X U (by decide) (Nat.le_of_ble_eq_true rfl) (Nat.le_of_ble_eq_true rfl) kd_Mo_init_122 (fun a15 H U => ?_)
  have U : kz_U D q s A [(h, .inr (6, [.ref a1, .int 0, .ref a2, .int 0, .ref a3, .int 0, .ref a4, .ref a5, .ref a6, .ref a7, .ref a8, .int 0, .ref a9, .ref a10, .ref a11, .ref a12, .ref a13, .int 0, .int 0, .int 0, .int 0, .ref a14, .int 0, .null, .null, .int 0])), (a1, .inl (q 0, 40, .inl (fun _ => 0))), (a2, .inl (q 0, 24, .inl (fun _ => 0))), (a3, .inl (q 0, 4, .inl (fun _ => 0))), (a4, .inl (q 0, 3, .inl (fun _ => 0))), (a5, .inl (q 0, 384, .inl (fun _ => 0))), (a6, .inl (q 0, 384, .inl (fun _ => 0))), (a7, .inl (q 0, 384, .inl (fun _ => 0))), (a8, .inl (q 0, 1152, .inl (fun _ => 0))), (a9, .inl (q 0, 42, .inl (fun _ => 0))), (a10, .inl (q 0, 42, .inl (fun _ => 0))), (a11, .inl (q 0, 42, .inl (fun _ => 0))), (a12, .inl (q 0, 42, .inl (fun _ => 0))), (a13, .inl (q 0, 42, .inl (fun _ => 0))), (a14, .inl (q 0, 24, .inl (fun _ => 0))), (a15, .inl (q 0, 3200, .inl (fun _ => 0)))] H locs := U
  refine kpf_Mo_52 X hin U 0 rfl (Nat.le_of_ble_eq_true rfl) kd_Mo_init_124 (fun H locs U => ?_)
  have U : kz_U D q s A [(h, .inr (6, [.ref a1, .int 0, .ref a2, .int 0, .ref a3, .int 0, .ref a4, .ref a5, .ref a6, .ref a7, .ref a8, .int 0, .ref a9, .ref a10, .ref a11, .ref a12, .ref a13, .int 0, .int 0, .int 0, .int 0, .ref a14, .int 0, .ref a15, .null, .int 0])), (a1, .inl (q 0, 40, .inl (fun _ => 0))), (a2, .inl (q 0, 24, .inl (fun _ => 0))), (a3, .inl (q 0, 4, .inl (fun _ => 0))), (a4, .inl (q 0, 3, .inl (fun _ => 0))), (a5, .inl (q 0, 384, .inl (fun _ => 0))), (a6, .inl (q 0, 384, .inl (fun _ => 0))), (a7, .inl (q 0, 384, .inl (fun _ => 0))), (a8, .inl (q 0, 1152, .inl (fun _ => 0))), (a9, .inl (q 0, 42, .inl (fun _ => 0))), (a10, .inl (q 0, 42, .inl (fun _ => 0))), (a11, .inl (q 0, 42, .inl (fun _ => 0))), (a12, .inl (q 0, 42, .inl (fun _ => 0))), (a13, .inl (q 0, 42, .inl (fun _ => 0))), (a14, .inl (q 0, 24, .inl (fun _ => 0))), (a15, .inl (q 0, 3200, .inl (fun _ => 0)))] H locs := U
  refine lv_aload_n hx hb kd_Mo_init_127 rfl (lv_at hl 0 rfl) ?_
  refine kz_bp X 25 kd_Mo_init_128 (by decide) ?_
  refine kz_newI X U (by decide) (Nat.le_of_ble_eq_true rfl) (Nat.le_of_ble_eq_true rfl) kd_Mo_init_130 (fun a16 H U => ?_)
  have U : kz_U D q s A [(h, .inr (6, [.ref a1, .int 0, .ref a2, .int 0, .ref a3, .int 0, .ref a4, .ref a5, .ref a6, .ref a7, .ref a8, .int 0, .ref a9, .ref a10, .ref a11, .ref a12, .ref a13, .int 0, .int 0, .int 0, .int 0, .ref a14, .int 0, .ref a15, .null, .int 0])), (a1, .inl (q 0, 40, .inl (fun _ => 0))), (a2, .inl (q 0, 24, .inl (fun _ => 0))), (a3, .inl (q 0, 4, .inl (fun _ => 0))), (a4, .inl (q 0, 3, .inl (fun _ => 0))), (a5, .inl (q 0, 384, .inl (fun _ => 0))), (a6, .inl (q 0, 384, .inl (fun _ => 0))), (a7, .inl (q 0, 384, .inl (fun _ => 0))), (a8, .inl (q 0, 1152, .inl (fun _ => 0))), (a9, .inl (q 0, 42, .inl (fun _ => 0))), (a10, .inl (q 0, 42, .inl (fun _ => 0))), (a11, .inl (q 0, 42, .inl (fun _ => 0))), (a12, .inl (q 0, 42, .inl (fun _ => 0))), (a13, .inl (q 0, 42, .inl (fun _ => 0))), (a14, .inl (q 0, 24, .inl (fun _ => 0))), (a15, .inl (q 0, 3200, .inl (fun _ => 0))), (a16, .inl (q 0, 25, .inl (fun _ => 0)))] H locs := U
  refine kpf_Mo_55 X hin U 0 rfl (Nat.le_of_ble_eq_true rfl) kd_Mo_init_132 (fun H locs U => ?_)
  have U : kz_U D q s A [(h, .inr (6, [.ref a1, .int 0, .ref a2, .int 0, .ref a3, .int 0, .ref a4, .ref a5, .ref a6, .ref a7, .ref a8, .int 0, .ref a9, .ref a10, .ref a11, .ref a12, .ref a13, .int 0, .int 0, .int 0, .int 0, .ref a14, .int 0, .ref a15, .ref a16, .int 0])), (a1, .inl (q 0, 40, .inl (fun _ => 0))), (a2, .inl (q 0, 24, .inl (fun _ => 0))), (a3, .inl (q 0, 4, .inl (fun _ => 0))), (a4, .inl (q 0, 3, .inl (fun _ => 0))), (a5, .inl (q 0, 384, .inl (fun _ => 0))), (a6, .inl (q 0, 384, .inl (fun _ => 0))), (a7, .inl (q 0, 384, .inl (fun _ => 0))), (a8, .inl (q 0, 1152, .inl (fun _ => 0))), (a9, .inl (q 0, 42, .inl (fun _ => 0))), (a10, .inl (q 0, 42, .inl (fun _ => 0))), (a11, .inl (q 0, 42, .inl (fun _ => 0))), (a12, .inl (q 0, 42, .inl (fun _ => 0))), (a13, .inl (q 0, 42, .inl (fun _ => 0))), (a14, .inl (q 0, 24, .inl (fun _ => 0))), (a15, .inl (q 0, 3200, .inl (fun _ => 0))), (a16, .inl (q 0, 25, .inl (fun _ => 0)))] H locs := U
  refine kz_ic X 0 kd_Mo_init_135 (by decide) ?_
  refine lv_istore_n hx hb kd_Mo_init_136 rfl hl (by decide) rfl (fun ls hl => ?_)
  have hl : lv_has ls 2 [(1, .int (nI 0)), (0, .ref h)] := hl
  refine lv_iload_n hx hb kd_Mo_init_137 rfl (lv_at hl 0 rfl) ?_
  refine kz_ic X 2 kd_Mo_init_138 (by decide) ?_
  refine kz_icge X (by decide) (by decide) kd_Mo_init_139 rfl (fun h => absurd h (by decide)) (fun _ => ?_)
  refine lv_aload_n hx hb kd_Mo_init_142 rfl (lv_at hl 1 rfl) ?_
  refine kg_Mo_19 X U 0 rfl rfl kd_Mo_init_143 ?_
  refine lv_iload_n hx hb kd_Mo_init_146 rfl (lv_at hl 0 rfl) ?_
  refine kz_ic X 1 kd_Mo_init_147 (by decide) ?_
  refine kz_iast (k := 0) X U 4 rfl (by decide) (by decide) kd_Mo_init_148 (fun H locs U => ?_)
  have U : kz_U D q s A [(h, .inr (6, [.ref a1, .int 0, .ref a2, .int 0, .ref a3, .int 0, .ref a4, .ref a5, .ref a6, .ref a7, .ref a8, .int 0, .ref a9, .ref a10, .ref a11, .ref a12, .ref a13, .int 0, .int 0, .int 0, .int 0, .ref a14, .int 0, .ref a15, .ref a16, .int 0])), (a1, .inl (q 0, 40, .inl (fun _ => 0))), (a2, .inl (q 0, 24, .inl (fun _ => 0))), (a3, .inl (q 0, 4, .inl (fun _ => 0))), (a4, .inl (q 0, 3, .inl (upd (fun _ => 0) 0 (nI 1)))), (a5, .inl (q 0, 384, .inl (fun _ => 0))), (a6, .inl (q 0, 384, .inl (fun _ => 0))), (a7, .inl (q 0, 384, .inl (fun _ => 0))), (a8, .inl (q 0, 1152, .inl (fun _ => 0))), (a9, .inl (q 0, 42, .inl (fun _ => 0))), (a10, .inl (q 0, 42, .inl (fun _ => 0))), (a11, .inl (q 0, 42, .inl (fun _ => 0))), (a12, .inl (q 0, 42, .inl (fun _ => 0))), (a13, .inl (q 0, 42, .inl (fun _ => 0))), (a14, .inl (q 0, 24, .inl (fun _ => 0))), (a15, .inl (q 0, 3200, .inl (fun _ => 0))), (a16, .inl (q 0, 25, .inl (fun _ => 0)))] H locs := U
  refine lv_aload_n hx hb kd_Mo_init_149 rfl (lv_at hl 1 rfl) ?_
  refine kg_Mo_22 X U 0 rfl rfl kd_Mo_init_150 ?_
  refine kz_sp X 128 kd_Mo_init_153 (by decide) ?_
  refine lv_iload_n hx hb kd_Mo_init_156 rfl (lv_at hl 0 rfl) ?_
  refine kz_imul X kd_Mo_init_157 ?_
  refine kz_top (y := nI 0) rfl ?_
  refine kz_ic X 0 kd_Mo_init_158 (by decide) ?_
  refine kz_iast (k := 0) X U 5 rfl (by decide) (by decide) kd_Mo_init_159 (fun H locs U => ?_)
  have U : kz_U D q s A [(h, .inr (6, [.ref a1, .int 0, .ref a2, .int 0, .ref a3, .int 0, .ref a4, .ref a5, .ref a6, .ref a7, .ref a8, .int 0, .ref a9, .ref a10, .ref a11, .ref a12, .ref a13, .int 0, .int 0, .int 0, .int 0, .ref a14, .int 0, .ref a15, .ref a16, .int 0])), (a1, .inl (q 0, 40, .inl (fun _ => 0))), (a2, .inl (q 0, 24, .inl (fun _ => 0))), (a3, .inl (q 0, 4, .inl (fun _ => 0))), (a4, .inl (q 0, 3, .inl (upd (fun _ => 0) 0 (nI 1)))), (a5, .inl (q 0, 384, .inl (upd (fun _ => 0) 0 (nI 0)))), (a6, .inl (q 0, 384, .inl (fun _ => 0))), (a7, .inl (q 0, 384, .inl (fun _ => 0))), (a8, .inl (q 0, 1152, .inl (fun _ => 0))), (a9, .inl (q 0, 42, .inl (fun _ => 0))), (a10, .inl (q 0, 42, .inl (fun _ => 0))), (a11, .inl (q 0, 42, .inl (fun _ => 0))), (a12, .inl (q 0, 42, .inl (fun _ => 0))), (a13, .inl (q 0, 42, .inl (fun _ => 0))), (a14, .inl (q 0, 24, .inl (fun _ => 0))), (a15, .inl (q 0, 3200, .inl (fun _ => 0))), (a16, .inl (q 0, 25, .inl (fun _ => 0)))] H locs := U
  refine lv_iinc (k := 0) (v := nI 1) hx hb kd_Mo_init_160 hl rfl rfl (by decide) rfl (fun ls hl => ?_)
  have hl : lv_has ls 2 [(1, .int (nI 1)), (0, .ref h)] := hl
  refine lv_goto hx hb kd_Mo_init_163 rfl ?_
  refine lv_iload_n hx hb kd_Mo_init_137 rfl (lv_at hl 0 rfl) ?_
  refine kz_ic X 2 kd_Mo_init_138 (by decide) ?_
  refine kz_icge X (by decide) (by decide) kd_Mo_init_139 rfl (fun h => absurd h (by decide)) (fun _ => ?_)
  refine lv_aload_n hx hb kd_Mo_init_142 rfl (lv_at hl 1 rfl) ?_
  refine kg_Mo_19 X U 0 rfl rfl kd_Mo_init_143 ?_
  refine lv_iload_n hx hb kd_Mo_init_146 rfl (lv_at hl 0 rfl) ?_
  refine kz_ic X 1 kd_Mo_init_147 (by decide) ?_
  refine kz_iast (k := 1) X U 4 rfl (by decide) (by decide) kd_Mo_init_148 (fun H locs U => ?_)
  have U : kz_U D q s A [(h, .inr (6, [.ref a1, .int 0, .ref a2, .int 0, .ref a3, .int 0, .ref a4, .ref a5, .ref a6, .ref a7, .ref a8, .int 0, .ref a9, .ref a10, .ref a11, .ref a12, .ref a13, .int 0, .int 0, .int 0, .int 0, .ref a14, .int 0, .ref a15, .ref a16, .int 0])), (a1, .inl (q 0, 40, .inl (fun _ => 0))), (a2, .inl (q 0, 24, .inl (fun _ => 0))), (a3, .inl (q 0, 4, .inl (fun _ => 0))), (a4, .inl (q 0, 3, .inl (upd (upd (fun _ => 0) 0 (nI 1)) 1 (nI 1)))), (a5, .inl (q 0, 384, .inl (upd (fun _ => 0) 0 (nI 0)))), (a6, .inl (q 0, 384, .inl (fun _ => 0))), (a7, .inl (q 0, 384, .inl (fun _ => 0))), (a8, .inl (q 0, 1152, .inl (fun _ => 0))), (a9, .inl (q 0, 42, .inl (fun _ => 0))), (a10, .inl (q 0, 42, .inl (fun _ => 0))), (a11, .inl (q 0, 42, .inl (fun _ => 0))), (a12, .inl (q 0, 42, .inl (fun _ => 0))), (a13, .inl (q 0, 42, .inl (fun _ => 0))), (a14, .inl (q 0, 24, .inl (fun _ => 0))), (a15, .inl (q 0, 3200, .inl (fun _ => 0))), (a16, .inl (q 0, 25, .inl (fun _ => 0)))] H locs := U
  refine lv_aload_n hx hb kd_Mo_init_149 rfl (lv_at hl 1 rfl) ?_
  refine kg_Mo_22 X U 0 rfl rfl kd_Mo_init_150 ?_
  refine kz_sp X 128 kd_Mo_init_153 (by decide) ?_
  refine lv_iload_n hx hb kd_Mo_init_156 rfl (lv_at hl 0 rfl) ?_
  refine kz_imul X kd_Mo_init_157 ?_
  refine kz_top (y := nI 128) rfl ?_
  refine kz_ic X 0 kd_Mo_init_158 (by decide) ?_
  refine kz_iast (k := 128) X U 5 rfl (by decide) (by decide) kd_Mo_init_159 (fun H locs U => ?_)
  have U : kz_U D q s A [(h, .inr (6, [.ref a1, .int 0, .ref a2, .int 0, .ref a3, .int 0, .ref a4, .ref a5, .ref a6, .ref a7, .ref a8, .int 0, .ref a9, .ref a10, .ref a11, .ref a12, .ref a13, .int 0, .int 0, .int 0, .int 0, .ref a14, .int 0, .ref a15, .ref a16, .int 0])), (a1, .inl (q 0, 40, .inl (fun _ => 0))), (a2, .inl (q 0, 24, .inl (fun _ => 0))), (a3, .inl (q 0, 4, .inl (fun _ => 0))), (a4, .inl (q 0, 3, .inl (upd (upd (fun _ => 0) 0 (nI 1)) 1 (nI 1)))), (a5, .inl (q 0, 384, .inl (upd (upd (fun _ => 0) 0 (nI 0)) 128 (nI 0)))), (a6, .inl (q 0, 384, .inl (fun _ => 0))), (a7, .inl (q 0, 384, .inl (fun _ => 0))), (a8, .inl (q 0, 1152, .inl (fun _ => 0))), (a9, .inl (q 0, 42, .inl (fun _ => 0))), (a10, .inl (q 0, 42, .inl (fun _ => 0))), (a11, .inl (q 0, 42, .inl (fun _ => 0))), (a12, .inl (q 0, 42, .inl (fun _ => 0))), (a13, .inl (q 0, 42, .inl (fun _ => 0))), (a14, .inl (q 0, 24, .inl (fun _ => 0))), (a15, .inl (q 0, 3200, .inl (fun _ => 0))), (a16, .inl (q 0, 25, .inl (fun _ => 0)))] H locs := U
  refine lv_iinc (k := 0) (v := nI 2) hx hb kd_Mo_init_160 hl rfl rfl (by decide) rfl (fun ls hl => ?_)
  have hl : lv_has ls 2 [(1, .int (nI 2)), (0, .ref h)] := hl
  refine lv_goto hx hb kd_Mo_init_163 rfl ?_
  refine lv_iload_n hx hb kd_Mo_init_137 rfl (lv_at hl 0 rfl) ?_
  refine kz_ic X 2 kd_Mo_init_138 (by decide) ?_
  refine kz_icge X (by decide) (by decide) kd_Mo_init_139 rfl (fun _ => ?_) (fun h => absurd h (by decide))
  exact kz_evN hQ hA X U (a1, a2, a3, a4, a5, a6, a7, a8, a9, a10, a11, a12, a13, a14, a15, a16) rfl trivial kd_Mo_init_166

