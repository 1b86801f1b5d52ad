abbrev rd_S : Type := Nat × Nat × (Nat → Nat) × (Nat → Bool) × (Nat → Bool) × List (Nat × Nat × Nat)
def rd_un (at_ lv : Nat) (no : Nat → Nat) (uo io : Nat → Bool) (P : List (Nat × Nat × Nat)) : Bool × rd_S := if no lv = 0 then (true, (at_ + 1, lv, no, va_up uo lv true, va_up io lv false, pg_add (rd_eU uo io lv P) (0, 0, 1))) else (false, (at_, lv, no, uo, io, P))
def rd_in (at_ lv : Nat) (no : Nat → Nat) (uo io : Nat → Bool) (P : List (Nat × Nat × Nat)) : Bool × rd_S := if no lv = 0 then (true, (at_ + 1, lv, no, uo, va_up io lv true, pg_add (rd_eI io lv P) (0, 0, 1))) else (false, (at_, lv, no, uo, io, P))
def rd_op (at_ lv : Nat) (no : Nat → Nat) (uo io : Nat → Bool) (P : List (Nat × Nat × Nat)) : Bool × rd_S := if lv + 1 < 41 then (true, (at_ + 1, lv + 1, va_up no (lv + 1) 0, va_up uo (lv + 1) false, va_up io (lv + 1) false, pg_add P (0, 0, 1))) else (false, (at_, lv, no, uo, io, P))
def rd_cl (at_ lv : Nat) (no : Nat → Nat) (uo io : Nat → Bool) (P : List (Nat × Nat × Nat)) : Bool × rd_S := if lv ≠ 0 ∧ no lv = 0 then (true, (at_ + 1, lv - 1, no, uo, io, rd_eU uo io lv P)) else (false, (at_, lv, no, uo, io, P))
/-- an item of a class: whether, where, the program -/
def rd_it (src : Nat → Nat) (len at_ : Nat) (P : List (Nat × Nat × Nat)) : Bool × Nat × List (Nat × Nat × Nat) := if at_ < len then (if at_ + 1 < len ∧ src (at_ + 1) = 45 ∧ at_ + 1 + 1 < len ∧ src (at_ + 1 + 1) ≠ 93 then (if src at_ ≤ src (at_ + 1 + 1) then (true, at_ + 1 + 1 + 1, pg_add P (1, src at_, src (at_ + 1 + 1) + 1)) else (false, at_ + 1 + 1, P)) else (true, at_ + 1, pg_add P (1, src at_, src at_ + 1))) else (false, at_, P)
/-- where the numbers of {..} end, and the most, one more, 0: any -/
def rd_t1 (src : Nat → Nat) (len at_ : Nat) : Nat × Nat := if at_ + 1 < len ∧ src (at_ + 1) = 44 then (if at_ + 1 + 1 < len ∧ src at_ ≤ src (at_ + 1 + 1) ∧ src (at_ + 1 + 1) ≤ 57 then (at_ + 1 + 1 + 1, src (at_ + 1 + 1) - 48 + 1) else (at_ + 1 + 1, 0)) else (at_ + 1, src at_ - 48 + 1)
def rd_tm (src : Nat → Nat) (len at_ : Nat) (P : List (Nat × Nat × Nat)) : Bool × Nat × List (Nat × Nat × Nat) := if at_ < len ∧ 48 ≤ src at_ ∧ src at_ ≤ 57 then (if (rd_t1 src len at_).1 < len ∧ src (rd_t1 src len at_).1 = 125 then (true, (rd_t1 src len at_).1 + 1, pg_add P (6, src at_ - 48, (rd_t1 src len at_).2)) else (false, (rd_t1 src len at_).1, P)) else (false, at_, P)
def rd_mr (src : Nat → Nat) (len at_ : Nat) (P : List (Nat × Nat × Nat)) : Bool × Nat × List (Nat × Nat × Nat) := if src at_ = 123 then rd_tm src len (at_ + 1) P else (true, at_ + 1, pg_add P (6, (if src at_ = 43 then 1 else 0), (if src at_ = 63 then 2 else 0)))

set_option maxHeartbeats 4000000 in
set_option maxRecDepth 100000 in
theorem cm_Rd_readUnionSign (l : Launch) (D : va_G) (q : Nat → ClassId) (rd an au ai as_ hg ak al ah : Nat) (at_ lv len : Nat) (no src : Nat → Nat) (uo io : Nat → Bool) (P : List (Nat × Nat × Nat)) (fk fl fh : Nat → Int32) (hlv : lv ≤ 40) (hlen : len ≤ 40) (hat : at_ ≤ len) (hsrc : ∀ j, src j < 65536) (hno : ∀ j, j ≤ lv → no j ≤ at_) (hP : kz_pg P fk fl fh) (hatl : at_ < len) : kz_Mi (S := rd_S × ((Nat → Int32) × (Nat → Int32) × (Nat → Int32))) l ky_Rd_readUnionSign kb_Rd_readUnionSign 1 (some .boolean) 3 D q [.ref rd] [(rd, .inr (4, [.ref an, .ref au, .ref ai, .int (nI lv), .ref as_, .int (nI len), .int (nI at_), .ref hg])), (an, .inl (q 0, 41, .inl (fun x_ => nI (no x_)))), (au, .inl (q 2, 41, .inl (fun x_ => nB (uo x_)))), (ai, .inl (q 2, 41, .inl (fun x_ => nB (io x_)))), (as_, .inl (q 1, 40, .inl (fun x_ => nI (src x_)))), (hg, .inr (3, [.ref ak, .ref al, .ref ah, .int (nI P.length)])), (ak, .inl (q 0, 81, .inl fk)), (al, .inl (q 0, 81, .inl fl)), (ah, .inl (q 0, 81, .inl fh))] (fun r u => r = nB (rd_un at_ lv no uo io P).1 ∧ u.1 = (rd_un at_ lv no uo io P).2 ∧ kz_pg u.1.2.2.2.2.2 u.2.1 u.2.2.1 u.2.2.2) (fun u => [(rd, .inr (4, [.ref an, .ref au, .ref ai, .int (nI u.1.2.1), .ref as_, .int (nI len), .int (nI u.1.1), .ref hg])), (an, .inl (q 0, 41, .inl (fun x_ => nI (u.1.2.2.1 x_)))), (au, .inl (q 2, 41, .inl (fun x_ => nB (u.1.2.2.2.1 x_)))), (ai, .inl (q 2, 41, .inl (fun x_ => nB (u.1.2.2.2.2.1 x_)))), (as_, .inl (q 1, 40, .inl (fun x_ => nI (src x_)))), (hg, .inr (3, [.ref ak, .ref al, .ref ah, .int (nI u.1.2.2.2.2.2.length)])), (ak, .inl (q 0, 81, .inl u.2.1)), (al, .inl (q 0, 81, .inl u.2.2.1)), (ah, .inl (q 0, 81, .inl u.2.2.2))]) := by
  intro sz_
  refine kz_go (by decide +kernel) (Nat.le_of_ble_eq_true rfl) ?_
  intro p e s m below meth c ls args A Q H locs hQ hA X U hl
  have hx := X.1
  have hb := X.2.1
  have hl : lv_has ls 1 [(0, .ref rd)] := hl
  refine lv_aload_n hx hb kd_Rd_readUnionSign_0 rfl (lv_at hl 0 rfl) ?_
  refine kg_Rd_9 X U 0 rfl rfl kd_Rd_readUnionSign_1 ?_
  refine lv_aload_n hx hb kd_Rd_readUnionSign_4 rfl (lv_at hl 0 rfl) ?_
  refine kg_Rd_22 X U 0 rfl rfl kd_Rd_readUnionSign_5 ?_
  refine kz_iald (k := lv) X U 1 rfl (by omega) (by omega) kd_Rd_readUnionSign_8 ?_
  refine kz_top (y := nI (no lv)) rfl ?_
  refine kz_nle X (by first | omega | (have := hsrc at_; have := hno lv (Nat.le_refl _); omega)) kd_Rd_readUnionSign_9 rfl (fun h9 => ?_) (fun h9 => ?_)
  · refine lv_aload_n hx hb kd_Rd_readUnionSign_14 rfl (lv_at hl 0 rfl) ?_
    refine lv_dup hx hb kd_Rd_readUnionSign_15 rfl ?_
    refine kg_Rd_33 X U 0 rfl rfl kd_Rd_readUnionSign_16 ?_
    refine kz_ic X 1 kd_Rd_readUnionSign_19 (by decide) ?_
    refine kz_iadd X kd_Rd_readUnionSign_20 ?_
    refine kz_top (y := nI (at_ + 1)) rfl ?_
    refine kp_Rd_33 X U 0 rfl (Nat.le_of_ble_eq_true rfl) kd_Rd_readUnionSign_21 (fun H locs U => ?_)
    have U : kz_U D q s A [(rd, .inr (4, [.ref an, .ref au, .ref ai, .int (nI lv), .ref as_, .int (nI len), .int (nI (at_ + 1)), .ref hg])), (an, .inl (q 0, 41, .inl (fun x_ => nI (no x_)))), (au, .inl (q 2, 41, .inl (fun x_ => nB (uo x_)))), (ai, .inl (q 2, 41, .inl (fun x_ => nB (io x_)))), (as_, .inl (q 1, 40, .inl (fun x_ => nI (src x_)))), (hg, .inr (3, [.ref ak, .ref al, .ref ah, .int (nI P.length)])), (ak, .inl (q 0, 81, .inl fk)), (al, .inl (q 0, 81, .inl fl)), (ah, .inl (q 0, 81, .inl fh))] H locs := U
    refine lv_aload_n hx hb kd_Rd_readUnionSign_24 rfl (lv_at hl 0 rfl) ?_
    refine kz_cVv (av := []) (rest := []) (wr := []) X U hl.1 (cm_Rd_endUnion l D q rd an au ai as_ hg ak al ah (at_ + 1) lv len no src uo io P fk fl fh hlv hlen (by omega) hsrc trivial hP) (by decide) (by decide) ⟨by decide, by decide⟩ tb_259 tb_261 tb_s4 0 rfl rfl tb_9 tb_262 kq_Rd_endUnion [0, 1, 2, 3, 4, 5, 6, 7, 8] [] (by decide) rfl rfl (by decide) (by decide) rfl (Nat.le_of_ble_eq_true rfl) kd_Rd_readUnionSign_25 (fun v H locs hv U => ?_)
    have U : kz_U D q s A [(rd, .inr (4, [.ref an, .ref au, .ref ai, .int (nI lv), .ref as_, .int (nI len), .int (nI (at_ + 1)), .ref hg])), (an, .inl (q 0, 41, .inl (fun x_ => nI (no x_)))), (au, .inl (q 2, 41, .inl (fun x_ => nB (uo x_)))), (ai, .inl (q 2, 41, .inl (fun x_ => nB (io x_)))), (as_, .inl (q 1, 40, .inl (fun x_ => nI (src x_)))), (hg, .inr (3, [.ref ak, .ref al, .ref ah, .int (nI ((rd_eU uo io lv P).length))])), (ak, .inl (q 0, 81, .inl v.1)), (al, .inl (q 0, 81, .inl v.2.1)), (ah, .inl (q 0, 81, .inl v.2.2))] H locs := U
    refine lv_aload_n hx hb kd_Rd_readUnionSign_28 rfl (lv_at hl 0 rfl) ?_
    refine kg_Rd_15 X U 0 rfl rfl kd_Rd_readUnionSign_29 ?_
    refine lv_aload_n hx hb kd_Rd_readUnionSign_32 rfl (lv_at hl 0 rfl) ?_
    refine kg_Rd_22 X U 0 rfl rfl kd_Rd_readUnionSign_33 ?_
    refine kz_ic X 1 kd_Rd_readUnionSign_36 (by decide) ?_
    refine kz_top (y := nB true) rfl ?_
    refine kz_zast (k := lv) X U 2 rfl (by omega) (by omega) kd_Rd_readUnionSign_37 (fun H locs U => ?_)
    rw [kz_updB] at U
    have U : kz_U D q s A [(rd, .inr (4, [.ref an, .ref au, .ref ai, .int (nI lv), .ref as_, .int (nI len), .int (nI (at_ + 1)), .ref hg])), (an, .inl (q 0, 41, .inl (fun x_ => nI (no x_)))), (au, .inl (q 2, 41, .inl (fun x_ => nB ((va_up uo lv true) x_)))), (ai, .inl (q 2, 41, .inl (fun x_ => nB (io x_)))), (as_, .inl (q 1, 40, .inl (fun x_ => nI (src x_)))), (hg, .inr (3, [.ref ak, .ref al, .ref ah, .int (nI ((rd_eU uo io lv P).length))])), (ak, .inl (q 0, 81, .inl v.1)), (al, .inl (q 0, 81, .inl v.2.1)), (ah, .inl (q 0, 81, .inl v.2.2))] H locs := U
    refine lv_aload_n hx hb kd_Rd_readUnionSign_38 rfl (lv_at hl 0 rfl) ?_
    refine kg_Rd_19 X U 0 rfl rfl kd_Rd_readUnionSign_39 ?_
    refine lv_aload_n hx hb kd_Rd_readUnionSign_42 rfl (lv_at hl 0 rfl) ?_
    refine kg_Rd_22 X U 0 rfl rfl kd_Rd_readUnionSign_43 ?_
    refine kz_ic X 0 kd_Rd_readUnionSign_46 (by decide) ?_
    refine kz_top (y := nB false) rfl ?_
    refine kz_zast (k := lv) X U 3 rfl (by omega) (by omega) kd_Rd_readUnionSign_47 (fun H locs U => ?_)
    rw [kz_updB] at U
    have U : kz_U D q s A [(rd, .inr (4, [.ref an, .ref au, .ref ai, .int (nI lv), .ref as_, .int (nI len), .int (nI (at_ + 1)), .ref hg])), (an, .inl (q 0, 41, .inl (fun x_ => nI (no x_)))), (au, .inl (q 2, 41, .inl (fun x_ => nB ((va_up uo lv true) x_)))), (ai, .inl (q 2, 41, .inl (fun x_ => nB ((va_up io lv false) x_)))), (as_, .inl (q 1, 40, .inl (fun x_ => nI (src x_)))), (hg, .inr (3, [.ref ak, .ref al, .ref ah, .int (nI ((rd_eU uo io lv P).length))])), (ak, .inl (q 0, 81, .inl v.1)), (al, .inl (q 0, 81, .inl v.2.1)), (ah, .inl (q 0, 81, .inl v.2.2))] H locs := U
    refine lv_aload_n hx hb kd_Rd_readUnionSign_48 rfl (lv_at hl 0 rfl) ?_
    refine kz_cVv (av := []) (rest := []) (wr := [(an, .inl (q 0, 41, .inl (fun x_ => nI (no x_)))), (au, .inl (q 2, 41, .inl (fun x_ => nB ((va_up uo lv true) x_)))), (ai, .inl (q 2, 41, .inl (fun x_ => nB ((va_up io lv false) x_)))), (as_, .inl (q 1, 40, .inl (fun x_ => nI (src x_))))]) X U hl.1 (cm_Rd_beginRow l D q rd an au ai as_ hg ak al ah (at_ + 1) lv len (rd_eU uo io lv P) v.1 v.2.1 v.2.2 hv) (by decide) (by decide) ⟨by decide, by decide⟩ tb_246 tb_248 tb_s1 0 rfl rfl tb_9 tb_249 kq_Rd_beginRow [0, 5, 6, 7, 8] [1, 2, 3, 4] (by decide) rfl rfl (by decide) (by decide) rfl (Nat.le_of_ble_eq_true rfl) kd_Rd_readUnionSign_49 (fun x H locs hxx U => ?_)
    have U : kz_U D q s A [(rd, .inr (4, [.ref an, .ref au, .ref ai, .int (nI lv), .ref as_, .int (nI len), .int (nI (at_ + 1)), .ref hg])), (an, .inl (q 0, 41, .inl (fun x_ => nI (no x_)))), (au, .inl (q 2, 41, .inl (fun x_ => nB ((va_up uo lv true) x_)))), (ai, .inl (q 2, 41, .inl (fun x_ => nB ((va_up io lv false) x_)))), (as_, .inl (q 1, 40, .inl (fun x_ => nI (src x_)))), (hg, .inr (3, [.ref ak, .ref al, .ref ah, .int (nI ((pg_add (rd_eU uo io lv P) (0, 0, 1)).length))])), (ak, .inl (q 0, 81, .inl x.1)), (al, .inl (q 0, 81, .inl x.2.1)), (ah, .inl (q 0, 81, .inl x.2.2))] H locs := U.sub [4, 0, 1, 2, 3, 5, 6, 7, 8] (by decide) rfl
    refine kz_ic X 1 kd_Rd_readUnionSign_52 (by decide) ?_
    refine kz_top (y := nB true) rfl ?_
    exact kz_ez hQ hA X U (((at_ + 1, lv, no, va_up uo lv true, va_up io lv false, pg_add (rd_eU uo io lv P) (0, 0, 1)), x)) rfl (by rw [show rd_un at_ lv no uo io P = (true, (at_ + 1, lv, no, va_up uo lv true, va_up io lv false, pg_add (rd_eU uo io lv P) (0, 0, 1))) from if_pos h9]; exact ⟨rfl, rfl, hxx⟩) kd_Rd_readUnionSign_53
  · refine kz_ic X 0 kd_Rd_readUnionSign_12 (by decide) ?_
    refine kz_top (y := nB false) rfl ?_
    exact kz_ez hQ hA X U (((at_, lv, no, uo, io, P), (fk, fl, fh))) rfl (by rw [show rd_un at_ lv no uo io P = (false, (at_, lv, no, uo, io, P)) from if_neg (by omega)]; exact ⟨rfl, rfl, hP⟩) kd_Rd_readUnionSign_13

set_option maxHeartbeats 4000000 in
set_option maxRecDepth 100000 in
theorem cm_Rd_readIntersectionSign (l : Launch) (D : va_G) (q : Nat → ClassId) (rd an au ai as_ hg ak al ah : Nat) (at_ lv len : Nat) (no src : Nat → Nat) (uo io : Nat → Bool) (P : List (Nat × Nat × Nat)) (fk fl fh : Nat → Int32) (hlv : lv ≤ 40) (hlen : len ≤ 40) (hat : at_ ≤ len) (hsrc : ∀ j, src j < 65536) (hno : ∀ j, j ≤ lv → no j ≤ at_) (hP : kz_pg P fk fl fh) (hatl : at_ < len) : kz_Mi (S := rd_S × ((Nat → Int32) × (Nat → Int32) × (Nat → Int32))) l ky_Rd_readIntersectionSign kb_Rd_readIntersectionSign 1 (some .boolean) 3 D q [.ref rd] [(rd, .inr (4, [.ref an, .ref au, .ref ai, .int (nI lv), .ref as_, .int (nI len), .int (nI at_), .ref hg])), (an, .inl (q 0, 41, .inl (fun x_ => nI (no x_)))), (au, .inl (q 2, 41, .inl (fun x_ => nB (uo x_)))), (ai, .inl (q 2, 41, .inl (fun x_ => nB (io x_)))), (as_, .inl (q 1, 40, .inl (fun x_ => nI (src x_)))), (hg, .inr (3, [.ref ak, .ref al, .ref ah, .int (nI P.length)])), (ak, .inl (q 0, 81, .inl fk)), (al, .inl (q 0, 81, .inl fl)), (ah, .inl (q 0, 81, .inl fh))] (fun r u => r = nB (rd_in at_ lv no uo io P).1 ∧ u.1 = (rd_in at_ lv no uo io P).2 ∧ kz_pg u.1.2.2.2.2.2 u.2.1 u.2.2.1 u.2.2.2) (fun u => [(rd, .inr (4, [.ref an, .ref au, .ref ai, .int (nI u.1.2.1), .ref as_, .int (nI len), .int (nI u.1.1), .ref hg])), (an, .inl (q 0, 41, .inl (fun x_ => nI (u.1.2.2.1 x_)))), (au, .inl (q 2, 41, .inl (fun x_ => nB (u.1.2.2.2.1 x_)))), (ai, .inl (q 2, 41, .inl (fun x_ => nB (u.1.2.2.2.2.1 x_)))), (as_, .inl (q 1, 40, .inl (fun x_ => nI (src x_)))), (hg, .inr (3, [.ref ak, .ref al, .ref ah, .int (nI u.1.2.2.2.2.2.length)])), (ak, .inl (q 0, 81, .inl u.2.1)), (al, .inl (q 0, 81, .inl u.2.2.1)), (ah, .inl (q 0, 81, .inl u.2.2.2))]) := by
  intro sz_
  refine kz_go (by decide +kernel) (Nat.le_of_ble_eq_true rfl) ?_
  intro p e s m below meth c ls args A Q H locs hQ hA X U hl
  have hx := X.1
  have hb := X.2.1
  have hl : lv_has ls 1 [(0, .ref rd)] := hl
  refine lv_aload_n hx hb kd_Rd_readIntersectionSign_0 rfl (lv_at hl 0 rfl) ?_
  refine kg_Rd_9 X U 0 rfl rfl kd_Rd_readIntersectionSign_1 ?_
  refine lv_aload_n hx hb kd_Rd_readIntersectionSign_4 rfl (lv_at hl 0 rfl) ?_
  refine kg_Rd_22 X U 0 rfl rfl kd_Rd_readIntersectionSign_5 ?_
  refine kz_iald (k := lv) X U 1 rfl (by omega) (by omega) kd_Rd_readIntersectionSign_8 ?_
  refine kz_top (y := nI (no lv)) rfl ?_
  refine kz_nle X (by first | omega | (have := hsrc at_; have := hno lv (Nat.le_refl _); omega)) kd_Rd_readIntersectionSign_9 rfl (fun h9 => ?_) (fun h9 => ?_)
  · refine lv_aload_n hx hb kd_Rd_readIntersectionSign_14 rfl (lv_at hl 0 rfl) ?_
    refine lv_dup hx hb kd_Rd_readIntersectionSign_15 rfl ?_
    refine kg_Rd_33 X U 0 rfl rfl kd_Rd_readIntersectionSign_16 ?_
    refine kz_ic X 1 kd_Rd_readIntersectionSign_19 (by decide) ?_
    refine kz_iadd X kd_Rd_readIntersectionSign_20 ?_
    refine kz_top (y := nI (at_ + 1)) rfl ?_
    refine kp_Rd_33 X U 0 rfl (Nat.le_of_ble_eq_true rfl) kd_Rd_readIntersectionSign_21 (fun H locs U => ?_)
    have U : kz_U D q s A [(rd, .inr (4, [.ref an, .ref au, .ref ai, .int (nI lv), .ref as_, .int (nI len), .int (nI (at_ + 1)), .ref hg])), (an, .inl (q 0, 41, .inl (fun x_ => nI (no x_)))), (au, .inl (q 2, 41, .inl (fun x_ => nB (uo x_)))), (ai, .inl (q 2, 41, .inl (fun x_ => nB (io x_)))), (as_, .inl (q 1, 40, .inl (fun x_ => nI (src x_)))), (hg, .inr (3, [.ref ak, .ref al, .ref ah, .int (nI P.length)])), (ak, .inl (q 0, 81, .inl fk)), (al, .inl (q 0, 81, .inl fl)), (ah, .inl (q 0, 81, .inl fh))] H locs := U
    refine lv_aload_n hx hb kd_Rd_readIntersectionSign_24 rfl (lv_at hl 0 rfl) ?_
    refine kz_cVv (av := []) (rest := []) (wr := []) X U hl.1 (cm_Rd_endIntersection l D q rd an au ai as_ hg ak al ah (at_ + 1) lv len no src uo io P fk fl fh hlv hlen (by omega) hsrc trivial hP) (by decide) (by decide) ⟨by decide, by decide⟩ tb_263 tb_265 tb_s5 0 rfl rfl tb_9 tb_266 kq_Rd_endIntersection [0, 1, 2, 3, 4, 5, 6, 7, 8] [] (by decide) rfl rfl (by decide) (by decide) rfl (Nat.le_of_ble_eq_true rfl) kd_Rd_readIntersectionSign_25 (fun v H locs hv U => ?_)
    have U : kz_U D q s A [(rd, .inr (4, [.ref an, .ref au, .ref ai, .int (nI lv), .ref as_, .int (nI len), .int (nI (at_ + 1)), .ref hg])), (an, .inl (q 0, 41, .inl (fun x_ => nI (no x_)))), (au, .inl (q 2, 41, .inl (fun x_ => nB (uo x_)))), (ai, .inl (q 2, 41, .inl (fun x_ => nB (io x_)))), (as_, .inl (q 1, 40, .inl (fun x_ => nI (src x_)))), (hg, .inr (3, [.ref ak, .ref al, .ref ah, .int (nI ((rd_eI io lv P).length))])), (ak, .inl (q 0, 81, .inl v.1)), (al, .inl (q 0, 81, .inl v.2.1)), (ah, .inl (q 0, 81, .inl v.2.2))] H locs := U
    refine lv_aload_n hx hb kd_Rd_readIntersectionSign_28 rfl (lv_at hl 0 rfl) ?_
    refine kg_Rd_19 X U 0 rfl rfl kd_Rd_readIntersectionSign_29 ?_
    refine lv_aload_n hx hb kd_Rd_readIntersectionSign_32 rfl (lv_at hl 0 rfl) ?_
    refine kg_Rd_22 X U 0 rfl rfl kd_Rd_readIntersectionSign_33 ?_
    refine kz_ic X 1 kd_Rd_readIntersectionSign_36 (by decide) ?_
    refine kz_top (y := nB true) rfl ?_
    refine kz_zast (k := lv) X U 3 rfl (by omega) (by omega) kd_Rd_readIntersectionSign_37 (fun H locs U => ?_)
    rw [kz_updB] at U
    have U : kz_U D q s A [(rd, .inr (4, [.ref an, .ref au, .ref ai, .int (nI lv), .ref as_, .int (nI len), .int (nI (at_ + 1)), .ref hg])), (an, .inl (q 0, 41, .inl (fun x_ => nI (no x_)))), (au, .inl (q 2, 41, .inl (fun x_ => nB (uo x_)))), (ai, .inl (q 2, 41, .inl (fun x_ => nB ((va_up io lv true) x_)))), (as_, .inl (q 1, 40, .inl (fun x_ => nI (src x_)))), (hg, .inr (3, [.ref ak, .ref al, .ref ah, .int (nI ((rd_eI io lv P).length))])), (ak, .inl (q 0, 81, .inl v.1)), (al, .inl (q 0, 81, .inl v.2.1)), (ah, .inl (q 0, 81, .inl v.2.2))] H locs := U
    refine lv_aload_n hx hb kd_Rd_readIntersectionSign_38 rfl (lv_at hl 0 rfl) ?_
    refine kz_cVv (av := []) (rest := []) (wr := [(an, .inl (q 0, 41, .inl (fun x_ => nI (no x_)))), (au, .inl (q 2, 41, .inl (fun x_ => nB (uo x_)))), (ai, .inl (q 2, 41, .inl (fun x_ => nB ((va_up io lv true) x_)))), (as_, .inl (q 1, 40, .inl (fun x_ => nI (src x_))))]) X U hl.1 (cm_Rd_beginRow l D q rd an au ai as_ hg ak al ah (at_ + 1) lv len (rd_eI io lv P) v.1 v.2.1 v.2.2 hv) (by decide) (by decide) ⟨by decide, by decide⟩ tb_246 tb_248 tb_s1 0 rfl rfl tb_9 tb_249 kq_Rd_beginRow [0, 5, 6, 7, 8] [1, 2, 3, 4] (by decide) rfl rfl (by decide) (by decide) rfl (Nat.le_of_ble_eq_true rfl) kd_Rd_readIntersectionSign_39 (fun x H locs hxx U => ?_)
    have U : kz_U D q s A [(rd, .inr (4, [.ref an, .ref au, .ref ai, .int (nI lv), .ref as_, .int (nI len), .int (nI (at_ + 1)), .ref hg])), (an, .inl (q 0, 41, .inl (fun x_ => nI (no x_)))), (au, .inl (q 2, 41, .inl (fun x_ => nB (uo x_)))), (ai, .inl (q 2, 41, .inl (fun x_ => nB ((va_up io lv true) x_)))), (as_, .inl (q 1, 40, .inl (fun x_ => nI (src x_)))), (hg, .inr (3, [.ref ak, .ref al, .ref ah, .int (nI ((pg_add (rd_eI io lv P) (0, 0, 1)).length))])), (ak, .inl (q 0, 81, .inl x.1)), (al, .inl (q 0, 81, .inl x.2.1)), (ah, .inl (q 0, 81, .inl x.2.2))] H locs := U.sub [4, 0, 1, 2, 3, 5, 6, 7, 8] (by decide) rfl
    refine kz_ic X 1 kd_Rd_readIntersectionSign_42 (by decide) ?_
    refine kz_top (y := nB true) rfl ?_
    exact kz_ez hQ hA X U (((at_ + 1, lv, no, uo, va_up io lv true, pg_add (rd_eI io lv P) (0, 0, 1)), x)) rfl (by rw [show rd_in at_ lv no uo io P = (true, (at_ + 1, lv, no, uo, va_up io lv true, pg_add (rd_eI io lv P) (0, 0, 1))) from if_pos h9]; exact ⟨rfl, rfl, hxx⟩) kd_Rd_readIntersectionSign_43
  · refine kz_ic X 0 kd_Rd_readIntersectionSign_12 (by decide) ?_
    refine kz_top (y := nB false) rfl ?_
    exact kz_ez hQ hA X U (((at_, lv, no, uo, io, P), (fk, fl, fh))) rfl (by rw [show rd_in at_ lv no uo io P = (false, (at_, lv, no, uo, io, P)) from if_neg (by omega)]; exact ⟨rfl, rfl, hP⟩) kd_Rd_readIntersectionSign_13

set_option maxHeartbeats 4000000 in
set_option maxRecDepth 100000 in
theorem cm_Rd_readOpening (l : Launch) (D : va_G) (q : Nat → ClassId) (rd an au ai as_ hg ak al ah : Nat) (at_ lv len : Nat) (no src : Nat → Nat) (uo io : Nat → Bool) (P : List (Nat × Nat × Nat)) (fk fl fh : Nat → Int32) (hlv : lv ≤ 40) (hlen : len ≤ 40) (hat : at_ ≤ len) (hsrc : ∀ j, src j < 65536) (hno : ∀ j, j ≤ lv → no j ≤ at_) (hP : kz_pg P fk fl fh) (hatl : at_ < len) : kz_Mi (S := rd_S × ((Nat → Int32) × (Nat → Int32) × (Nat → Int32))) l ky_Rd_readOpening kb_Rd_readOpening 1 (some .boolean) 3 D q [.ref rd] [(rd, .inr (4, [.ref an, .ref au, .ref ai, .int (nI lv), .ref as_, .int (nI len), .int (nI at_), .ref hg])), (an, .inl (q 0, 41, .inl (fun x_ => nI (no x_)))), (au, .inl (q 2, 41, .inl (fun x_ => nB (uo x_)))), (ai, .inl (q 2, 41, .inl (fun x_ => nB (io x_)))), (as_, .inl (q 1, 40, .inl (fun x_ => nI (src x_)))), (hg, .inr (3, [.ref ak, .ref al, .ref ah, .int (nI P.length)])), (ak, .inl (q 0, 81, .inl fk)), (al, .inl (q 0, 81, .inl fl)), (ah, .inl (q 0, 81, .inl fh))] (fun r u => r = nB (rd_op at_ lv no uo io P).1 ∧ u.1 = (rd_op at_ lv no uo io P).2 ∧ kz_pg u.1.2.2.2.2.2 u.2.1 u.2.2.1 u.2.2.2) (fun u => [(rd, .inr (4, [.ref an, .ref au, .ref ai, .int (nI u.1.2.1), .ref as_, .int (nI len), .int (nI u.1.1), .ref hg])), (an, .inl (q 0, 41, .inl (fun x_ => nI (u.1.2.2.1 x_)))), (au, .inl (q 2, 41, .inl (fun x_ => nB (u.1.2.2.2.1 x_)))), (ai, .inl (q 2, 41, .inl (fun x_ => nB (u.1.2.2.2.2.1 x_)))), (as_, .inl (q 1, 40, .inl (fun x_ => nI (src x_)))), (hg, .inr (3, [.ref ak, .ref al, .ref ah, .int (nI u.1.2.2.2.2.2.length)])), (ak, .inl (q 0, 81, .inl u.2.1)), (al, .inl (q 0, 81, .inl u.2.2.1)), (ah, .inl (q 0, 81, .inl u.2.2.2))]) := by
  intro sz_
  refine kz_go (by decide +kernel) (Nat.le_of_ble_eq_true rfl) ?_
  intro p e s m below meth c ls args A Q H locs hQ hA X U hl
  have hx := X.1
  have hb := X.2.1
  have hl : lv_has ls 1 [(0, .ref rd)] := hl
  refine lv_aload_n hx hb kd_Rd_readOpening_0 rfl (lv_at hl 0 rfl) ?_
  refine kg_Rd_22 X U 0 rfl rfl kd_Rd_readOpening_1 ?_
  refine kz_ic X 1 kd_Rd_readOpening_4 (by decide) ?_
  refine kz_iadd X kd_Rd_readOpening_5 ?_
  refine kz_top (y := nI (lv + 1)) rfl ?_
  refine kz_bp X 41 kd_Rd_readOpening_6 (by decide) ?_
  refine kz_iclt X (by first | omega | (have := hsrc at_; have := hno lv (Nat.le_refl _); omega)) (by first | omega | (have := hsrc at_; have := hno lv (Nat.le_refl _); omega)) kd_Rd_readOpening_8 rfl (fun h8 => ?_) (fun h8 => ?_)
  · refine lv_aload_n hx hb kd_Rd_readOpening_13 rfl (lv_at hl 0 rfl) ?_
    refine lv_dup hx hb kd_Rd_readOpening_14 rfl ?_
    refine kg_Rd_33 X U 0 rfl rfl kd_Rd_readOpening_15 ?_
    refine kz_ic X 1 kd_Rd_readOpening_18 (by decide) ?_
    refine kz_iadd X kd_Rd_readOpening_19 ?_
    refine kz_top (y := nI (at_ + 1)) rfl ?_
    refine kp_Rd_33 X U 0 rfl (Nat.le_of_ble_eq_true rfl) kd_Rd_readOpening_20 (fun H locs U => ?_)
    have U : kz_U D q s A [(rd, .inr (4, [.ref an, .ref au, .ref ai, .int (nI lv), .ref as_, .int (nI len), .int (nI (at_ + 1)), .ref hg])), (an, .inl (q 0, 41, .inl (fun x_ => nI (no x_)))), (au, .inl (q 2, 41, .inl (fun x_ => nB (uo x_)))), (ai, .inl (q 2, 41, .inl (fun x_ => nB (io x_)))), (as_, .inl (q 1, 40, .inl (fun x_ => nI (src x_)))), (hg, .inr (3, [.ref ak, .ref al, .ref ah, .int (nI P.length)])), (ak, .inl (q 0, 81, .inl fk)), (al, .inl (q 0, 81, .inl fl)), (ah, .inl (q 0, 81, .inl fh))] H locs := U
    refine lv_aload_n hx hb kd_Rd_readOpening_23 rfl (lv_at hl 0 rfl) ?_
    refine lv_dup hx hb kd_Rd_readOpening_24 rfl ?_
    refine kg_Rd_22 X U 0 rfl rfl kd_Rd_readOpening_25 ?_
    refine kz_ic X 1 kd_Rd_readOpening_28 (by decide) ?_
    refine kz_iadd X kd_Rd_readOpening_29 ?_
    refine kz_top (y := nI (lv + 1)) rfl ?_
    refine kp_Rd_22 X U 0 rfl (Nat.le_of_ble_eq_true rfl) kd_Rd_readOpening_30 (fun H locs U => ?_)
    have U : kz_U D q s A [(rd, .inr (4, [.ref an, .ref au, .ref ai, .int (nI (lv + 1)), .ref as_, .int (nI len), .int (nI (at_ + 1)), .ref hg])), (an, .inl (q 0, 41, .inl (fun x_ => nI (no x_)))), (au, .inl (q 2, 41, .inl (fun x_ => nB (uo x_)))), (ai, .inl (q 2, 41, .inl (fun x_ => nB (io x_)))), (as_, .inl (q 1, 40, .inl (fun x_ => nI (src x_)))), (hg, .inr (3, [.ref ak, .ref al, .ref ah, .int (nI P.length)])), (ak, .inl (q 0, 81, .inl fk)), (al, .inl (q 0, 81, .inl fl)), (ah, .inl (q 0, 81, .inl fh))] H locs := U
    refine lv_aload_n hx hb kd_Rd_readOpening_33 rfl (lv_at hl 0 rfl) ?_
    refine kz_cVv (av := []) (rest := []) (wr := []) X U hl.1 (cm_Rd_beginLevel l D q rd an au ai as_ hg ak al ah (at_ + 1) (lv + 1) len no src uo io P fk fl fh (by omega) hlen (by omega) hsrc trivial hP) (by decide) (by decide) ⟨by decide, by decide⟩ tb_242 tb_244 tb_s0 0 rfl rfl tb_9 tb_245 kq_Rd_beginLevel [0, 1, 2, 3, 4, 5, 6, 7, 8] [] (by decide) rfl rfl (by decide) (by decide) rfl (Nat.le_of_ble_eq_true rfl) kd_Rd_readOpening_34 (fun x H locs hxx U => ?_)
    have U : kz_U D q s A [(rd, .inr (4, [.ref an, .ref au, .ref ai, .int (nI (lv + 1)), .ref as_, .int (nI len), .int (nI (at_ + 1)), .ref hg])), (an, .inl (q 0, 41, .inl (fun x_ => nI ((va_up no (lv + 1) 0) x_)))), (au, .inl (q 2, 41, .inl (fun x_ => nB ((va_up uo (lv + 1) false) x_)))), (ai, .inl (q 2, 41, .inl (fun x_ => nB ((va_up io (lv + 1) false) x_)))), (as_, .inl (q 1, 40, .inl (fun x_ => nI (src x_)))), (hg, .inr (3, [.ref ak, .ref al, .ref ah, .int (nI ((pg_add P (0, 0, 1)).length))])), (ak, .inl (q 0, 81, .inl x.1)), (al, .inl (q 0, 81, .inl x.2.1)), (ah, .inl (q 0, 81, .inl x.2.2))] H locs := U
    refine kz_ic X 1 kd_Rd_readOpening_37 (by decide) ?_
    refine kz_top (y := nB true) rfl ?_
    exact kz_ez hQ hA X U (((at_ + 1, lv + 1, va_up no (lv + 1) 0, va_up uo (lv + 1) false, va_up io (lv + 1) false, pg_add P (0, 0, 1)), x)) rfl (by rw [show rd_op at_ lv no uo io P = (true, (at_ + 1, lv + 1, va_up no (lv + 1) 0, va_up uo (lv + 1) false, va_up io (lv + 1) false, pg_add P (0, 0, 1))) from if_pos h8]; exact ⟨rfl, rfl, hxx⟩) kd_Rd_readOpening_38
  · refine kz_ic X 0 kd_Rd_readOpening_11 (by decide) ?_
    refine kz_top (y := nB false) rfl ?_
    exact kz_ez hQ hA X U (((at_, lv, no, uo, io, P), (fk, fl, fh))) rfl (by rw [show rd_op at_ lv no uo io P = (false, (at_, lv, no, uo, io, P)) from if_neg (by omega)]; exact ⟨rfl, rfl, hP⟩) kd_Rd_readOpening_12

set_option maxHeartbeats 4000000 in
set_option maxRecDepth 100000 in
theorem cm_Rd_readClosing (l : Launch) (D : va_G) (q : Nat → ClassId) (rd an au ai as_ hg ak al ah : Nat) (at_ lv len : Nat) (no src : Nat → Nat) (uo io : Nat → Bool) (P : List (Nat × Nat × Nat)) (fk fl fh : Nat → Int32) (hlv : lv ≤ 40) (hlen : len ≤ 40) (hat : at_ ≤ len) (hsrc : ∀ j, src j < 65536) (hno : ∀ j, j ≤ lv → no j ≤ at_) (hP : kz_pg P fk fl fh) (hatl : at_ < len) : kz_Mi (S := rd_S × ((Nat → Int32) × (Nat → Int32) × (Nat → Int32))) l ky_Rd_readClosing kb_Rd_readClosing 1 (some .boolean) 3 D q [.ref rd] [(rd, .inr (4, [.ref an, .ref au, .ref ai, .int (nI lv), .ref as_, .int (nI len), .int (nI at_), .ref hg])), (an, .inl (q 0, 41, .inl (fun x_ => nI (no x_)))), (au, .inl (q 2, 41, .inl (fun x_ => nB (uo x_)))), (ai, .inl (q 2, 41, .inl (fun x_ => nB (io x_)))), (as_, .inl (q 1, 40, .inl (fun x_ => nI (src x_)))), (hg, .inr (3, [.ref ak, .ref al, .ref ah, .int (nI P.length)])), (ak, .inl (q 0, 81, .inl fk)), (al, .inl (q 0, 81, .inl fl)), (ah, .inl (q 0, 81, .inl fh))] (fun r u => r = nB (rd_cl at_ lv no uo io P).1 ∧ u.1 = (rd_cl at_ lv no uo io P).2 ∧ kz_pg u.1.2.2.2.2.2 u.2.1 u.2.2.1 u.2.2.2) (fun u => [(rd, .inr (4, [.ref an, .ref au, .ref ai, .int (nI u.1.2.1), .ref as_, .int (nI len), .int (nI u.1.1), .ref hg])), (an, .inl (q 0, 41, .inl (fun x_ => nI (u.1.2.2.1 x_)))), (au, .inl (q 2, 41, .inl (fun x_ => nB (u.1.2.2.2.1 x_)))), (ai, .inl (q 2, 41, .inl (fun x_ => nB (u.1.2.2.2.2.1 x_)))), (as_, .inl (q 1, 40, .inl (fun x_ => nI (src x_)))), (hg, .inr (3, [.ref ak, .ref al, .ref ah, .int (nI u.1.2.2.2.2.2.length)])), (ak, .inl (q 0, 81, .inl u.2.1)), (al, .inl (q 0, 81, .inl u.2.2.1)), (ah, .inl (q 0, 81, .inl u.2.2.2))]) := by
  intro sz_
  refine kz_go (by decide +kernel) (Nat.le_of_ble_eq_true rfl) ?_
  intro p e s m below meth c ls args A Q H locs hQ hA X U hl
  have hx := X.1
  have hb := X.2.1
  have hl : lv_has ls 1 [(0, .ref rd)] := hl
  refine lv_aload_n hx hb kd_Rd_readClosing_0 rfl (lv_at hl 0 rfl) ?_
  refine kg_Rd_22 X U 0 rfl rfl kd_Rd_readClosing_1 ?_
  refine kz_neq X (by first | omega | (have := hsrc at_; have := hno lv (Nat.le_refl _); omega)) kd_Rd_readClosing_4 rfl (fun h4 => ?_) (fun h4 => ?_)
  · refine kz_ic X 0 kd_Rd_readClosing_19 (by decide) ?_
    refine kz_top (y := nB false) rfl ?_
    exact kz_ez hQ hA X U (((at_, lv, no, uo, io, P), (fk, fl, fh))) rfl (by rw [show rd_cl at_ lv no uo io P = (false, (at_, lv, no, uo, io, P)) from if_neg (by omega)]; exact ⟨rfl, rfl, hP⟩) kd_Rd_readClosing_20
  · refine lv_aload_n hx hb kd_Rd_readClosing_7 rfl (lv_at hl 0 rfl) ?_
    refine kg_Rd_9 X U 0 rfl rfl kd_Rd_readClosing_8 ?_
    refine lv_aload_n hx hb kd_Rd_readClosing_11 rfl (lv_at hl 0 rfl) ?_
    refine kg_Rd_22 X U 0 rfl rfl kd_Rd_readClosing_12 ?_
    refine kz_iald (k := lv) X U 1 rfl (by omega) (by omega) kd_Rd_readClosing_15 ?_
    refine kz_top (y := nI (no lv)) rfl ?_
    refine kz_nle X (by first | omega | (have := hsrc at_; have := hno lv (Nat.le_refl _); omega)) kd_Rd_readClosing_16 rfl (fun h16 => ?_) (fun h16 => ?_)
    · refine lv_aload_n hx hb kd_Rd_readClosing_21 rfl (lv_at hl 0 rfl) ?_
      refine lv_dup hx hb kd_Rd_readClosing_22 rfl ?_
      refine kg_Rd_33 X U 0 rfl rfl kd_Rd_readClosing_23 ?_
      refine kz_ic X 1 kd_Rd_readClosing_26 (by decide) ?_
      refine kz_iadd X kd_Rd_readClosing_27 ?_
      refine kz_top (y := nI (at_ + 1)) rfl ?_
      refine kp_Rd_33 X U 0 rfl (Nat.le_of_ble_eq_true rfl) kd_Rd_readClosing_28 (fun H locs U => ?_)
      have U : kz_U D q s A [(rd, .inr (4, [.ref an, .ref au, .ref ai, .int (nI lv), .ref as_, .int (nI len), .int (nI (at_ + 1)), .ref hg])), (an, .inl (q 0, 41, .inl (fun x_ => nI (no x_)))), (au, .inl (q 2, 41, .inl (fun x_ => nB (uo x_)))), (ai, .inl (q 2, 41, .inl (fun x_ => nB (io x_)))), (as_, .inl (q 1, 40, .inl (fun x_ => nI (src x_)))), (hg, .inr (3, [.ref ak, .ref al, .ref ah, .int (nI P.length)])), (ak, .inl (q 0, 81, .inl fk)), (al, .inl (q 0, 81, .inl fl)), (ah, .inl (q 0, 81, .inl fh))] H locs := U
      refine lv_aload_n hx hb kd_Rd_readClosing_31 rfl (lv_at hl 0 rfl) ?_
      refine kz_cVv (av := []) (rest := []) (wr := []) X U hl.1 (cm_Rd_endUnion l D q rd an au ai as_ hg ak al ah (at_ + 1) lv len no src uo io P fk fl fh hlv hlen (by omega) hsrc trivial hP) (by decide) (by decide) ⟨by decide, by decide⟩ tb_259 tb_261 tb_s4 0 rfl rfl tb_9 tb_262 kq_Rd_endUnion [0, 1, 2, 3, 4, 5, 6, 7, 8] [] (by decide) rfl rfl (by decide) (by decide) rfl (Nat.le_of_ble_eq_true rfl) kd_Rd_readClosing_32 (fun x H locs hxx U => ?_)
      have U : kz_U D q s A [(rd, .inr (4, [.ref an, .ref au, .ref ai, .int (nI lv), .ref as_, .int (nI len), .int (nI (at_ + 1)), .ref hg])), (an, .inl (q 0, 41, .inl (fun x_ => nI (no x_)))), (au, .inl (q 2, 41, .inl (fun x_ => nB (uo x_)))), (ai, .inl (q 2, 41, .inl (fun x_ => nB (io x_)))), (as_, .inl (q 1, 40, .inl (fun x_ => nI (src x_)))), (hg, .inr (3, [.ref ak, .ref al, .ref ah, .int (nI ((rd_eU uo io lv P).length))])), (ak, .inl (q 0, 81, .inl x.1)), (al, .inl (q 0, 81, .inl x.2.1)), (ah, .inl (q 0, 81, .inl x.2.2))] H locs := U
      refine lv_aload_n hx hb kd_Rd_readClosing_35 rfl (lv_at hl 0 rfl) ?_
      refine lv_dup hx hb kd_Rd_readClosing_36 rfl ?_
      refine kg_Rd_22 X U 0 rfl rfl kd_Rd_readClosing_37 ?_
      refine kz_ic X 1 kd_Rd_readClosing_40 (by decide) ?_
      refine kz_isub X (by first | omega | (have := hsrc at_; have := hno lv (Nat.le_refl _); omega)) kd_Rd_readClosing_41 ?_
      refine kp_Rd_22 X U 0 rfl (Nat.le_of_ble_eq_true rfl) kd_Rd_readClosing_42 (fun H locs U => ?_)
      have U : kz_U D q s A [(rd, .inr (4, [.ref an, .ref au, .ref ai, .int (nI (lv - 1)), .ref as_, .int (nI len), .int (nI (at_ + 1)), .ref hg])), (an, .inl (q 0, 41, .inl (fun x_ => nI (no x_)))), (au, .inl (q 2, 41, .inl (fun x_ => nB (uo x_)))), (ai, .inl (q 2, 41, .inl (fun x_ => nB (io x_)))), (as_, .inl (q 1, 40, .inl (fun x_ => nI (src x_)))), (hg, .inr (3, [.ref ak, .ref al, .ref ah, .int (nI ((rd_eU uo io lv P).length))])), (ak, .inl (q 0, 81, .inl x.1)), (al, .inl (q 0, 81, .inl x.2.1)), (ah, .inl (q 0, 81, .inl x.2.2))] H locs := U
      refine kz_ic X 1 kd_Rd_readClosing_45 (by decide) ?_
      refine kz_top (y := nB true) rfl ?_
      exact kz_ez hQ hA X U (((at_ + 1, lv - 1, no, uo, io, rd_eU uo io lv P), x)) rfl (by rw [show rd_cl at_ lv no uo io P = (true, (at_ + 1, lv - 1, no, uo, io, rd_eU uo io lv P)) from if_pos ⟨h4, h16⟩]; exact ⟨rfl, rfl, hxx⟩) kd_Rd_readClosing_46
    · refine kz_ic X 0 kd_Rd_readClosing_19 (by decide) ?_
      refine kz_top (y := nB false) rfl ?_
      exact kz_ez hQ hA X U (((at_, lv, no, uo, io, P), (fk, fl, fh))) rfl (by rw [show rd_cl at_ lv no uo io P = (false, (at_, lv, no, uo, io, P)) from if_neg (by omega)]; exact ⟨rfl, rfl, hP⟩) kd_Rd_readClosing_20

set_option maxHeartbeats 4000000 in
set_option maxRecDepth 100000 in
theorem cm_Rd_readItem (l : Launch) (D : va_G) (q : Nat → ClassId) (rd an au ai as_ hg ak al ah : Nat) (at_ lv len : Nat) (src : Nat → Nat) (P : List (Nat × Nat × Nat)) (fk fl fh : Nat → Int32) (hlen : len ≤ 40) (hat : at_ ≤ len) (hsrc : ∀ j, src j < 65536) (hP : kz_pg P fk fl fh) : kz_Mi (S := (Nat × List (Nat × Nat × Nat)) × ((Nat → Int32) × (Nat → Int32) × (Nat → Int32))) l ky_Rd_readItem kb_Rd_readItem 3 (some .boolean) 1 D q [.ref rd] [(rd, .inr (4, [.ref an, .ref au, .ref ai, .int (nI lv), .ref as_, .int (nI len), .int (nI at_), .ref hg])), (as_, .inl (q 1, 40, .inl (fun x_ => nI (src x_)))), (hg, .inr (3, [.ref ak, .ref al, .ref ah, .int (nI P.length)])), (ak, .inl (q 0, 81, .inl fk)), (al, .inl (q 0, 81, .inl fl)), (ah, .inl (q 0, 81, .inl fh))] (fun r u => r = nB (rd_it src len at_ P).1 ∧ u.1 = (rd_it src len at_ P).2 ∧ kz_pg u.1.2 u.2.1 u.2.2.1 u.2.2.2) (fun u => [(rd, .inr (4, [.ref an, .ref au, .ref ai, .int (nI lv), .ref as_, .int (nI len), .int (nI u.1.1), .ref hg])), (as_, .inl (q 1, 40, .inl (fun x_ => nI (src x_)))), (hg, .inr (3, [.ref ak, .ref al, .ref ah, .int (nI u.1.2.length)])), (ak, .inl (q 0, 81, .inl u.2.1)), (al, .inl (q 0, 81, .inl u.2.2.1)), (ah, .inl (q 0, 81, .inl u.2.2.2))]) := by
  intro sz_
  refine kz_go (by decide +kernel) (Nat.le_of_ble_eq_true rfl) ?_
  intro p e s m below meth c ls args A Q H locs hQ hA X U hl
  have hx := X.1
  have hb := X.2.1
  have hl : lv_has ls 3 [(0, .ref rd)] := hl
  refine lv_aload_n hx hb kd_Rd_readItem_0 rfl (lv_at hl 0 rfl) ?_
  refine kg_Rd_33 X U 0 rfl rfl kd_Rd_readItem_1 ?_
  refine lv_aload_n hx hb kd_Rd_readItem_4 rfl (lv_at hl 0 rfl) ?_
  refine kg_Rd_30 X U 0 rfl rfl kd_Rd_readItem_5 ?_
  refine kz_iclt X (by first | omega | (have := hsrc at_; omega) | (have := hsrc (at_ + 1); have := hsrc at_; have := hsrc (at_ + 1 + 1); omega)) (by first | omega | (have := hsrc at_; omega) | (have := hsrc (at_ + 1); have := hsrc at_; have := hsrc (at_ + 1 + 1); omega)) kd_Rd_readItem_8 rfl (fun h8 => ?_) (fun h8 => ?_)
  · refine lv_aload_n hx hb kd_Rd_readItem_13 rfl (lv_at hl 0 rfl) ?_
    refine kg_Rd_26 X U 0 rfl rfl kd_Rd_readItem_14 ?_
    refine lv_aload_n hx hb kd_Rd_readItem_17 rfl (lv_at hl 0 rfl) ?_
    refine kg_Rd_33 X U 0 rfl rfl kd_Rd_readItem_18 ?_
    refine kz_cald (k := at_) X U 1 rfl (by omega) (by omega) kd_Rd_readItem_21 ?_
    refine kz_top (y := nI (src at_)) rfl ?_
    refine lv_istore_n hx hb kd_Rd_readItem_22 rfl hl (by decide) rfl (fun ls hl => ?_)
    have hl : lv_has ls 3 [(1, .int (nI (src at_))), (0, .ref rd)] := hl
    refine lv_iload_n hx hb kd_Rd_readItem_23 rfl (lv_at hl 0 rfl) ?_
    refine lv_istore_n hx hb kd_Rd_readItem_24 rfl hl (by decide) rfl (fun ls hl => ?_)
    have hl : lv_has ls 3 [(2, .int (nI (src at_))), (1, .int (nI (src at_))), (0, .ref rd)] := hl
    refine lv_aload_n hx hb kd_Rd_readItem_25 rfl (lv_at hl 2 rfl) ?_
    refine lv_dup hx hb kd_Rd_readItem_26 rfl ?_
    refine kg_Rd_33 X U 0 rfl rfl kd_Rd_readItem_27 ?_
    refine kz_ic X 1 kd_Rd_readItem_30 (by decide) ?_
    refine kz_iadd X kd_Rd_readItem_31 ?_
    refine kz_top (y := nI (at_ + 1)) rfl ?_
    refine kp_Rd_33 X U 0 rfl (Nat.le_of_ble_eq_true rfl) kd_Rd_readItem_32 (fun H locs U => ?_)
    have U : kz_U D q s A [(rd, .inr (4, [.ref an, .ref au, .ref ai, .int (nI lv), .ref as_, .int (nI len), .int (nI (at_ + 1)), .ref hg])), (as_, .inl (q 1, 40, .inl (fun x_ => nI (src x_)))), (hg, .inr (3, [.ref ak, .ref al, .ref ah, .int (nI P.length)])), (ak, .inl (q 0, 81, .inl fk)), (al, .inl (q 0, 81, .inl fl)), (ah, .inl (q 0, 81, .inl fh))] H locs := U
    refine lv_aload_n hx hb kd_Rd_readItem_35 rfl (lv_at hl 2 rfl) ?_
    refine kz_bp X 45 kd_Rd_readItem_36 (by decide) ?_
    refine kz_cVi (av := [.int (nI 45)]) (rest := []) (wr := [(hg, .inr (3, [.ref ak, .ref al, .ref ah, .int (nI P.length)])), (ak, .inl (q 0, 81, .inl fk)), (al, .inl (q 0, 81, .inl fl)), (ah, .inl (q 0, 81, .inl fh))]) X U hl.1 (cm_Rd_isNext l D q rd an au ai as_ hg (at_ + 1) lv len 45 src hlen hsrc (by omega) (by omega)) (by decide) (by decide) ⟨by decide, by decide⟩ tb_298 tb_300 tb_s13 0 rfl rfl tb_9 tb_301 kq_Rd_isNext [0, 1] [2, 3, 4, 5] (by decide) rfl rfl (by decide) (by decide) rfl (Nat.le_of_ble_eq_true rfl) kd_Rd_readItem_38 (fun rv _ H locs hp U => ?_)
    subst hp
    have U : kz_U D q s A [(rd, .inr (4, [.ref an, .ref au, .ref ai, .int (nI lv), .ref as_, .int (nI len), .int (nI (at_ + 1)), .ref hg])), (as_, .inl (q 1, 40, .inl (fun x_ => nI (src x_)))), (hg, .inr (3, [.ref ak, .ref al, .ref ah, .int (nI P.length)])), (ak, .inl (q 0, 81, .inl fk)), (al, .inl (q 0, 81, .inl fl)), (ah, .inl (q 0, 81, .inl fh))] H locs := U.sub [4, 5, 0, 1, 2, 3] (by decide) rfl
    refine kz_ifeqB X kd_Rd_readItem_41 rfl (fun h41 => ?_) (fun h41 => ?_)
    · refine lv_aload_n hx hb kd_Rd_readItem_110 rfl (lv_at hl 2 rfl) ?_
      refine kg_Rd_39 X U 0 rfl rfl kd_Rd_readItem_111 ?_
      refine kz_ic X 1 kd_Rd_readItem_114 (by decide) ?_
      refine lv_iload_n hx hb kd_Rd_readItem_115 rfl (lv_at hl 1 rfl) ?_
      refine lv_iload_n hx hb kd_Rd_readItem_116 rfl (lv_at hl 0 rfl) ?_
      refine kz_cVv (av := [.int (nI 1), .int (nI (src at_)), .int (nI (src at_))]) (rest := []) (wr := [(rd, .inr (4, [.ref an, .ref au, .ref ai, .int (nI lv), .ref as_, .int (nI len), .int (nI (at_ + 1)), .ref hg])), (as_, .inl (q 1, 40, .inl (fun x_ => nI (src x_))))]) X U hl.1 (cm_Pg_addP l D q hg ak al ah 1 (src at_) (src at_ + 1) (nI (src at_)) (P) fk fl fh (pk_m1 _).symm hP) (by decide) (by decide) ⟨by decide, by decide⟩ tb_250 tb_123 tb_124 2 rfl rfl tb_8 tb_125 kq_Pg_add [2, 3, 4, 5] [0, 1] (by decide) rfl rfl (by decide) (by decide) rfl (Nat.le_of_ble_eq_true rfl) kd_Rd_readItem_117 (fun x H locs hxx U => ?_)
      have U : kz_U D q s A [(rd, .inr (4, [.ref an, .ref au, .ref ai, .int (nI lv), .ref as_, .int (nI len), .int (nI (at_ + 1)), .ref hg])), (as_, .inl (q 1, 40, .inl (fun x_ => nI (src x_)))), (hg, .inr (3, [.ref ak, .ref al, .ref ah, .int (nI ((pg_add P (1, src at_, src at_ + 1)).length))])), (ak, .inl (q 0, 81, .inl x.1)), (al, .inl (q 0, 81, .inl x.2.1)), (ah, .inl (q 0, 81, .inl x.2.2))] H locs := U
      refine kz_ic X 1 kd_Rd_readItem_120 (by decide) ?_
      refine kz_top (y := nB true) rfl ?_
      exact kz_ez hQ hA X U (((at_ + 1, pg_add P (1, src at_, src at_ + 1)), x)) rfl (by rw [show rd_it src len at_ P = (true, at_ + 1, pg_add P (1, src at_, src at_ + 1)) from (if_pos h8).trans (if_neg (fun z => by first | exact absurd (decide_eq_true (show at_ + 1 < len ∧ src (at_ + 1) = 45 from ⟨z.1, z.2.1⟩)) (by rw [h41]; decide) | omega))]; exact ⟨rfl, rfl, hxx⟩) kd_Rd_readItem_121
    · refine lv_aload_n hx hb kd_Rd_readItem_44 rfl (lv_at hl 2 rfl) ?_
      refine kg_Rd_33 X U 0 rfl rfl kd_Rd_readItem_45 ?_
      refine kz_ic X 1 kd_Rd_readItem_48 (by decide) ?_
      refine kz_iadd X kd_Rd_readItem_49 ?_
      refine kz_top (y := nI (at_ + 1 + 1)) rfl ?_
      refine lv_aload_n hx hb kd_Rd_readItem_50 rfl (lv_at hl 2 rfl) ?_
      refine kg_Rd_30 X U 0 rfl rfl kd_Rd_readItem_51 ?_
      refine kz_icge X (by first | omega | (have := hsrc at_; omega) | (have := hsrc (at_ + 1); have := hsrc at_; have := hsrc (at_ + 1 + 1); omega)) (by first | omega | (have := hsrc at_; omega) | (have := hsrc (at_ + 1); have := hsrc at_; have := hsrc (at_ + 1 + 1); omega)) kd_Rd_readItem_54 rfl (fun h54 => ?_) (fun h54 => ?_)
      · refine lv_aload_n hx hb kd_Rd_readItem_110 rfl (lv_at hl 2 rfl) ?_
        refine kg_Rd_39 X U 0 rfl rfl kd_Rd_readItem_111 ?_
        refine kz_ic X 1 kd_Rd_readItem_114 (by decide) ?_
        refine lv_iload_n hx hb kd_Rd_readItem_115 rfl (lv_at hl 1 rfl) ?_
        refine lv_iload_n hx hb kd_Rd_readItem_116 rfl (lv_at hl 0 rfl) ?_
        refine kz_cVv (av := [.int (nI 1), .int (nI (src at_)), .int (nI (src at_))]) (rest := []) (wr := [(rd, .inr (4, [.ref an, .ref au, .ref ai, .int (nI lv), .ref as_, .int (nI len), .int (nI (at_ + 1)), .ref hg])), (as_, .inl (q 1, 40, .inl (fun x_ => nI (src x_))))]) X U hl.1 (cm_Pg_addP l D q hg ak al ah 1 (src at_) (src at_ + 1) (nI (src at_)) (P) fk fl fh (pk_m1 _).symm hP) (by decide) (by decide) ⟨by decide, by decide⟩ tb_250 tb_123 tb_124 2 rfl rfl tb_8 tb_125 kq_Pg_add [2, 3, 4, 5] [0, 1] (by decide) rfl rfl (by decide) (by decide) rfl (Nat.le_of_ble_eq_true rfl) kd_Rd_readItem_117 (fun x H locs hxx U => ?_)
        have U : kz_U D q s A [(rd, .inr (4, [.ref an, .ref au, .ref ai, .int (nI lv), .ref as_, .int (nI len), .int (nI (at_ + 1)), .ref hg])), (as_, .inl (q 1, 40, .inl (fun x_ => nI (src x_)))), (hg, .inr (3, [.ref ak, .ref al, .ref ah, .int (nI ((pg_add P (1, src at_, src at_ + 1)).length))])), (ak, .inl (q 0, 81, .inl x.1)), (al, .inl (q 0, 81, .inl x.2.1)), (ah, .inl (q 0, 81, .inl x.2.2))] H locs := U
        refine kz_ic X 1 kd_Rd_readItem_120 (by decide) ?_
        refine kz_top (y := nB true) rfl ?_
        exact kz_ez hQ hA X U (((at_ + 1, pg_add P (1, src at_, src at_ + 1)), x)) rfl (by rw [show rd_it src len at_ P = (true, at_ + 1, pg_add P (1, src at_, src at_ + 1)) from (if_pos h8).trans (if_neg (fun z => by first | exact absurd (decide_eq_true (show at_ + 1 < len ∧ src (at_ + 1) = 45 from ⟨z.1, z.2.1⟩)) (by rw [h41]; decide) | omega))]; exact ⟨rfl, rfl, hxx⟩) kd_Rd_readItem_121
      · refine lv_aload_n hx hb kd_Rd_readItem_57 rfl (lv_at hl 2 rfl) ?_
        refine kg_Rd_26 X U 0 rfl rfl kd_Rd_readItem_58 ?_
        refine lv_aload_n hx hb kd_Rd_readItem_61 rfl (lv_at hl 2 rfl) ?_
        refine kg_Rd_33 X U 0 rfl rfl kd_Rd_readItem_62 ?_
        refine kz_ic X 1 kd_Rd_readItem_65 (by decide) ?_
        refine kz_iadd X kd_Rd_readItem_66 ?_
        refine kz_top (y := nI (at_ + 1 + 1)) rfl ?_
        refine kz_cald (k := at_ + 1 + 1) X U 1 rfl (by omega) (by omega) kd_Rd_readItem_67 ?_
        refine kz_top (y := nI (src (at_ + 1 + 1))) rfl ?_
        refine kz_bp X 93 kd_Rd_readItem_68 (by decide) ?_
        refine kz_iceq X (by first | omega | (have := hsrc at_; omega) | (have := hsrc (at_ + 1); have := hsrc at_; have := hsrc (at_ + 1 + 1); omega)) (by first | omega | (have := hsrc at_; omega) | (have := hsrc (at_ + 1); have := hsrc at_; have := hsrc (at_ + 1 + 1); omega)) kd_Rd_readItem_70 rfl (fun h70 => ?_) (fun h70 => ?_)
        · refine lv_aload_n hx hb kd_Rd_readItem_110 rfl (lv_at hl 2 rfl) ?_
          refine kg_Rd_39 X U 0 rfl rfl kd_Rd_readItem_111 ?_
          refine kz_ic X 1 kd_Rd_readItem_114 (by decide) ?_
          refine lv_iload_n hx hb kd_Rd_readItem_115 rfl (lv_at hl 1 rfl) ?_
          refine lv_iload_n hx hb kd_Rd_readItem_116 rfl (lv_at hl 0 rfl) ?_
          refine kz_cVv (av := [.int (nI 1), .int (nI (src at_)), .int (nI (src at_))]) (rest := []) (wr := [(rd, .inr (4, [.ref an, .ref au, .ref ai, .int (nI lv), .ref as_, .int (nI len), .int (nI (at_ + 1)), .ref hg])), (as_, .inl (q 1, 40, .inl (fun x_ => nI (src x_))))]) X U hl.1 (cm_Pg_addP l D q hg ak al ah 1 (src at_) (src at_ + 1) (nI (src at_)) (P) fk fl fh (pk_m1 _).symm hP) (by decide) (by decide) ⟨by decide, by decide⟩ tb_250 tb_123 tb_124 2 rfl rfl tb_8 tb_125 kq_Pg_add [2, 3, 4, 5] [0, 1] (by decide) rfl rfl (by decide) (by decide) rfl (Nat.le_of_ble_eq_true rfl) kd_Rd_readItem_117 (fun x H locs hxx U => ?_)
          have U : kz_U D q s A [(rd, .inr (4, [.ref an, .ref au, .ref ai, .int (nI lv), .ref as_, .int (nI len), .int (nI (at_ + 1)), .ref hg])), (as_, .inl (q 1, 40, .inl (fun x_ => nI (src x_)))), (hg, .inr (3, [.ref ak, .ref al, .ref ah, .int (nI ((pg_add P (1, src at_, src at_ + 1)).length))])), (ak, .inl (q 0, 81, .inl x.1)), (al, .inl (q 0, 81, .inl x.2.1)), (ah, .inl (q 0, 81, .inl x.2.2))] H locs := U
          refine kz_ic X 1 kd_Rd_readItem_120 (by decide) ?_
          refine kz_top (y := nB true) rfl ?_
          exact kz_ez hQ hA X U (((at_ + 1, pg_add P (1, src at_, src at_ + 1)), x)) rfl (by rw [show rd_it src len at_ P = (true, at_ + 1, pg_add P (1, src at_, src at_ + 1)) from (if_pos h8).trans (if_neg (fun z => by first | exact absurd (decide_eq_true (show at_ + 1 < len ∧ src (at_ + 1) = 45 from ⟨z.1, z.2.1⟩)) (by rw [h41]; decide) | omega))]; exact ⟨rfl, rfl, hxx⟩) kd_Rd_readItem_121
        · refine lv_aload_n hx hb kd_Rd_readItem_73 rfl (lv_at hl 2 rfl) ?_
          refine lv_dup hx hb kd_Rd_readItem_74 rfl ?_
          refine kg_Rd_33 X U 0 rfl rfl kd_Rd_readItem_75 ?_
          refine kz_ic X 1 kd_Rd_readItem_78 (by decide) ?_
          refine kz_iadd X kd_Rd_readItem_79 ?_
          refine kz_top (y := nI (at_ + 1 + 1)) rfl ?_
          refine kp_Rd_33 X U 0 rfl (Nat.le_of_ble_eq_true rfl) kd_Rd_readItem_80 (fun H locs U => ?_)
          have U : kz_U D q s A [(rd, .inr (4, [.ref an, .ref au, .ref ai, .int (nI lv), .ref as_, .int (nI len), .int (nI (at_ + 1 + 1)), .ref hg])), (as_, .inl (q 1, 40, .inl (fun x_ => nI (src x_)))), (hg, .inr (3, [.ref ak, .ref al, .ref ah, .int (nI P.length)])), (ak, .inl (q 0, 81, .inl fk)), (al, .inl (q 0, 81, .inl fl)), (ah, .inl (q 0, 81, .inl fh))] H locs := U
          refine lv_aload_n hx hb kd_Rd_readItem_83 rfl (lv_at hl 2 rfl) ?_
          refine kg_Rd_26 X U 0 rfl rfl kd_Rd_readItem_84 ?_
          refine lv_aload_n hx hb kd_Rd_readItem_87 rfl (lv_at hl 2 rfl) ?_
          refine kg_Rd_33 X U 0 rfl rfl kd_Rd_readItem_88 ?_
          refine kz_cald (k := at_ + 1 + 1) X U 1 rfl (by omega) (by omega) kd_Rd_readItem_91 ?_
          refine kz_top (y := nI (src (at_ + 1 + 1))) rfl ?_
          refine lv_istore_n hx hb kd_Rd_readItem_92 rfl hl (by decide) rfl (fun ls hl => ?_)
          have hl : lv_has ls 3 [(2, .int (nI (src (at_ + 1 + 1)))), (1, .int (nI (src at_))), (0, .ref rd)] := hl
          refine lv_iload_n hx hb kd_Rd_readItem_93 rfl (lv_at hl 0 rfl) ?_
          refine lv_iload_n hx hb kd_Rd_readItem_94 rfl (lv_at hl 1 rfl) ?_
          refine kz_icge X (by first | omega | (have := hsrc at_; omega) | (have := hsrc (at_ + 1); have := hsrc at_; have := hsrc (at_ + 1 + 1); omega)) (by first | omega | (have := hsrc at_; omega) | (have := hsrc (at_ + 1); have := hsrc at_; have := hsrc (at_ + 1 + 1); omega)) kd_Rd_readItem_95 rfl (fun h95 => ?_) (fun h95 => ?_)
          · refine lv_aload_n hx hb kd_Rd_readItem_100 rfl (lv_at hl 2 rfl) ?_
            refine lv_dup hx hb kd_Rd_readItem_101 rfl ?_
            refine kg_Rd_33 X U 0 rfl rfl kd_Rd_readItem_102 ?_
            refine kz_ic X 1 kd_Rd_readItem_105 (by decide) ?_
            refine kz_iadd X kd_Rd_readItem_106 ?_
            refine kz_top (y := nI (at_ + 1 + 1 + 1)) rfl ?_
            refine kp_Rd_33 X U 0 rfl (Nat.le_of_ble_eq_true rfl) kd_Rd_readItem_107 (fun H locs U => ?_)
            have U : kz_U D q s A [(rd, .inr (4, [.ref an, .ref au, .ref ai, .int (nI lv), .ref as_, .int (nI len), .int (nI (at_ + 1 + 1 + 1)), .ref hg])), (as_, .inl (q 1, 40, .inl (fun x_ => nI (src x_)))), (hg, .inr (3, [.ref ak, .ref al, .ref ah, .int (nI P.length)])), (ak, .inl (q 0, 81, .inl fk)), (al, .inl (q 0, 81, .inl fl)), (ah, .inl (q 0, 81, .inl fh))] H locs := U
            refine lv_aload_n hx hb kd_Rd_readItem_110 rfl (lv_at hl 2 rfl) ?_
            refine kg_Rd_39 X U 0 rfl rfl kd_Rd_readItem_111 ?_
            refine kz_ic X 1 kd_Rd_readItem_114 (by decide) ?_
            refine lv_iload_n hx hb kd_Rd_readItem_115 rfl (lv_at hl 1 rfl) ?_
            refine lv_iload_n hx hb kd_Rd_readItem_116 rfl (lv_at hl 0 rfl) ?_
            refine kz_cVv (av := [.int (nI 1), .int (nI (src at_)), .int (nI (src (at_ + 1 + 1)))]) (rest := []) (wr := [(rd, .inr (4, [.ref an, .ref au, .ref ai, .int (nI lv), .ref as_, .int (nI len), .int (nI (at_ + 1 + 1 + 1)), .ref hg])), (as_, .inl (q 1, 40, .inl (fun x_ => nI (src x_))))]) X U hl.1 (cm_Pg_addP l D q hg ak al ah 1 (src at_) (src (at_ + 1 + 1) + 1) (nI (src (at_ + 1 + 1))) (P) fk fl fh (pk_m1 _).symm hP) (by decide) (by decide) ⟨by decide, by decide⟩ tb_250 tb_123 tb_124 2 rfl rfl tb_8 tb_125 kq_Pg_add [2, 3, 4, 5] [0, 1] (by decide) rfl rfl (by decide) (by decide) rfl (Nat.le_of_ble_eq_true rfl) kd_Rd_readItem_117 (fun x H locs hxx U => ?_)
            have U : kz_U D q s A [(rd, .inr (4, [.ref an, .ref au, .ref ai, .int (nI lv), .ref as_, .int (nI len), .int (nI (at_ + 1 + 1 + 1)), .ref hg])), (as_, .inl (q 1, 40, .inl (fun x_ => nI (src x_)))), (hg, .inr (3, [.ref ak, .ref al, .ref ah, .int (nI ((pg_add P (1, src at_, src (at_ + 1 + 1) + 1)).length))])), (ak, .inl (q 0, 81, .inl x.1)), (al, .inl (q 0, 81, .inl x.2.1)), (ah, .inl (q 0, 81, .inl x.2.2))] H locs := U
            refine kz_ic X 1 kd_Rd_readItem_120 (by decide) ?_
            refine kz_top (y := nB true) rfl ?_
            exact kz_ez hQ hA X U (((at_ + 1 + 1 + 1, pg_add P (1, src at_, src (at_ + 1 + 1) + 1)), x)) rfl (by rw [show rd_it src len at_ P = (true, at_ + 1 + 1 + 1, pg_add P (1, src at_, src (at_ + 1 + 1) + 1)) from (if_pos h8).trans ((if_pos ⟨(of_decide_eq_true h41).1, (of_decide_eq_true h41).2, h54, h70⟩).trans (if_pos h95))]; exact ⟨rfl, rfl, hxx⟩) kd_Rd_readItem_121
          · refine kz_ic X 0 kd_Rd_readItem_98 (by decide) ?_
            refine kz_top (y := nB false) rfl ?_
            exact kz_ez hQ hA X U (((at_ + 1 + 1, P), (fk, fl, fh))) rfl (by rw [show rd_it src len at_ P = (false, at_ + 1 + 1, P) from (if_pos h8).trans ((if_pos ⟨(of_decide_eq_true h41).1, (of_decide_eq_true h41).2, h54, h70⟩).trans (if_neg (by omega)))]; exact ⟨rfl, rfl, hP⟩) kd_Rd_readItem_99
  · refine kz_ic X 0 kd_Rd_readItem_11 (by decide) ?_
    refine kz_top (y := nB false) rfl ?_
    exact kz_ez hQ hA X U (((at_, P), (fk, fl, fh))) rfl (by rw [show rd_it src len at_ P = (false, at_, P) from if_neg (by omega)]; exact ⟨rfl, rfl, hP⟩) kd_Rd_readItem_12

set_option maxHeartbeats 4000000 in
set_option maxRecDepth 100000 in
theorem cm_Rd_readTimes (l : Launch) (D : va_G) (q : Nat → ClassId) (rd an au ai as_ hg ak al ah : Nat) (at_ lv len : Nat) (src : Nat → Nat) (P : List (Nat × Nat × Nat)) (fk fl fh : Nat → Int32) (hlen : len ≤ 40) (hat : at_ ≤ len) (hsrc : ∀ j, src j < 65536) (hP : kz_pg P fk fl fh) : kz_Mi (S := (Nat × List (Nat × Nat × Nat)) × ((Nat → Int32) × (Nat → Int32) × (Nat → Int32))) l ky_Rd_readTimes kb_Rd_readTimes 4 (some .boolean) 1 D q [.ref rd] [(rd, .inr (4, [.ref an, .ref au, .ref ai, .int (nI lv), .ref as_, .int (nI len), .int (nI at_), .ref hg])), (as_, .inl (q 1, 40, .inl (fun x_ => nI (src x_)))), (hg, .inr (3, [.ref ak, .ref al, .ref ah, .int (nI P.length)])), (ak, .inl (q 0, 81, .inl fk)), (al, .inl (q 0, 81, .inl fl)), (ah, .inl (q 0, 81, .inl fh))] (fun r u => r = nB (rd_tm src len at_ P).1 ∧ u.1 = (rd_tm src len at_ P).2 ∧ kz_pg u.1.2 u.2.1 u.2.2.1 u.2.2.2) (fun u => [(rd, .inr (4, [.ref an, .ref au, .ref ai, .int (nI lv), .ref as_, .int (nI len), .int (nI u.1.1), .ref hg])), (as_, .inl (q 1, 40, .inl (fun x_ => nI (src x_)))), (hg, .inr (3, [.ref ak, .ref al, .ref ah, .int (nI u.1.2.length)])), (ak, .inl (q 0, 81, .inl u.2.1)), (al, .inl (q 0, 81, .inl u.2.2.1)), (ah, .inl (q 0, 81, .inl u.2.2.2))]) := by
  intro sz_
  refine kz_go (by decide +kernel) (Nat.le_of_ble_eq_true rfl) ?_
  intro p e s m below meth c ls args A Q H locs hQ hA X U hl
  have hx := X.1
  have hb := X.2.1
  have hl : lv_has ls 4 [(0, .ref rd)] := hl
  refine lv_aload_n hx hb kd_Rd_readTimes_0 rfl (lv_at hl 0 rfl) ?_
  refine kz_bp X 48 kd_Rd_readTimes_1 (by decide) ?_
  refine kz_cVi (av := [.int (nI 48)]) (rest := []) (wr := [(hg, .inr (3, [.ref ak, .ref al, .ref ah, .int (nI P.length)])), (ak, .inl (q 0, 81, .inl fk)), (al, .inl (q 0, 81, .inl fl)), (ah, .inl (q 0, 81, .inl fh))]) X U hl.1 (cm_Rd_isDigitFrom l D q rd an au ai as_ hg at_ lv len 48 src hlen hsrc (by omega) (by omega)) (by decide) (by decide) ⟨by decide, by decide⟩ tb_294 tb_296 tb_s12 0 rfl rfl tb_9 tb_297 kq_Rd_isDigitFrom [0, 1] [2, 3, 4, 5] (by decide) rfl rfl (by decide) (by decide) rfl (Nat.le_of_ble_eq_true rfl) kd_Rd_readTimes_3 (fun rv _ H locs hp U => ?_)
  subst hp
  have U : kz_U D q s A [(rd, .inr (4, [.ref an, .ref au, .ref ai, .int (nI lv), .ref as_, .int (nI len), .int (nI at_), .ref hg])), (as_, .inl (q 1, 40, .inl (fun x_ => nI (src x_)))), (hg, .inr (3, [.ref ak, .ref al, .ref ah, .int (nI P.length)])), (ak, .inl (q 0, 81, .inl fk)), (al, .inl (q 0, 81, .inl fl)), (ah, .inl (q 0, 81, .inl fh))] H locs := U.sub [4, 5, 0, 1, 2, 3] (by decide) rfl
  refine kz_ifneB X kd_Rd_readTimes_6 rfl (fun h6 => ?_) (fun h6 => ?_)
  · have hat6 := (of_decide_eq_true h6).1
    have h48 := (of_decide_eq_true h6).2.1
    refine lv_aload_n hx hb kd_Rd_readTimes_11 rfl (lv_at hl 0 rfl) ?_
    refine kg_Rd_26 X U 0 rfl rfl kd_Rd_readTimes_12 ?_
    refine lv_aload_n hx hb kd_Rd_readTimes_15 rfl (lv_at hl 0 rfl) ?_
    refine kg_Rd_33 X U 0 rfl rfl kd_Rd_readTimes_16 ?_
    refine kz_cald (k := at_) X U 1 rfl (by omega) (by omega) kd_Rd_readTimes_19 ?_
    refine kz_top (y := nI (src at_)) rfl ?_
    refine lv_istore_n hx hb kd_Rd_readTimes_20 rfl hl (by decide) rfl (fun ls hl => ?_)
    have hl : lv_has ls 4 [(1, .int (nI (src at_))), (0, .ref rd)] := hl
    refine lv_iload_n hx hb kd_Rd_readTimes_21 rfl (lv_at hl 0 rfl) ?_
    refine kz_bp X 48 kd_Rd_readTimes_22 (by decide) ?_
    refine kz_isub X (by first | omega | (have := hsrc at_; omega) | (have := hsrc (at_ + 1); have := hsrc at_; have := hsrc (at_ + 1 + 1); omega) | (have := (of_decide_eq_true h6).2.1; omega) | (have := (of_decide_eq_true h64).2.1; have := (of_decide_eq_true h6).2.1; omega)) kd_Rd_readTimes_24 ?_
    refine lv_istore_n hx hb kd_Rd_readTimes_25 rfl hl (by decide) rfl (fun ls hl => ?_)
    have hl : lv_has ls 4 [(2, .int (nI ((src at_) - 48))), (1, .int (nI (src at_))), (0, .ref rd)] := hl
    refine lv_iload_n hx hb kd_Rd_readTimes_26 rfl (lv_at hl 0 rfl) ?_
    refine lv_istore_n hx hb kd_Rd_readTimes_27 rfl hl (by decide) rfl (fun ls hl => ?_)
    have hl : lv_has ls 4 [(3, .int (nI ((src at_) - 48))), (2, .int (nI ((src at_) - 48))), (1, .int (nI (src at_))), (0, .ref rd)] := hl
    refine lv_aload_n hx hb kd_Rd_readTimes_28 rfl (lv_at hl 3 rfl) ?_
    refine lv_dup hx hb kd_Rd_readTimes_29 rfl ?_
    refine kg_Rd_33 X U 0 rfl rfl kd_Rd_readTimes_30 ?_
    refine kz_ic X 1 kd_Rd_readTimes_33 (by decide) ?_
    refine kz_iadd X kd_Rd_readTimes_34 ?_
    refine kz_top (y := nI (at_ + 1)) rfl ?_
    refine kp_Rd_33 X U 0 rfl (Nat.le_of_ble_eq_true rfl) kd_Rd_readTimes_35 (fun H locs U => ?_)
    have U : kz_U D q s A [(rd, .inr (4, [.ref an, .ref au, .ref ai, .int (nI lv), .ref as_, .int (nI len), .int (nI (at_ + 1)), .ref hg])), (as_, .inl (q 1, 40, .inl (fun x_ => nI (src x_)))), (hg, .inr (3, [.ref ak, .ref al, .ref ah, .int (nI P.length)])), (ak, .inl (q 0, 81, .inl fk)), (al, .inl (q 0, 81, .inl fl)), (ah, .inl (q 0, 81, .inl fh))] H locs := U
    refine lv_aload_n hx hb kd_Rd_readTimes_38 rfl (lv_at hl 3 rfl) ?_
    refine kz_bp X 44 kd_Rd_readTimes_39 (by decide) ?_
    refine kz_cVi (av := [.int (nI 44)]) (rest := []) (wr := [(hg, .inr (3, [.ref ak, .ref al, .ref ah, .int (nI P.length)])), (ak, .inl (q 0, 81, .inl fk)), (al, .inl (q 0, 81, .inl fl)), (ah, .inl (q 0, 81, .inl fh))]) X U hl.1 (cm_Rd_isNext l D q rd an au ai as_ hg (at_ + 1) lv len 44 src hlen hsrc (by omega) (Nat.succ_le_of_lt hat6)) (by decide) (by decide) ⟨by decide, by decide⟩ tb_298 tb_300 tb_s13 0 rfl rfl tb_9 tb_301 kq_Rd_isNext [0, 1] [2, 3, 4, 5] (by decide) rfl rfl (by decide) (by decide) rfl (Nat.le_of_ble_eq_true rfl) kd_Rd_readTimes_41 (fun rv _ H locs hp U => ?_)
    subst hp
    have U : kz_U D q s A [(rd, .inr (4, [.ref an, .ref au, .ref ai, .int (nI lv), .ref as_, .int (nI len), .int (nI (at_ + 1)), .ref hg])), (as_, .inl (q 1, 40, .inl (fun x_ => nI (src x_)))), (hg, .inr (3, [.ref ak, .ref al, .ref ah, .int (nI P.length)])), (ak, .inl (q 0, 81, .inl fk)), (al, .inl (q 0, 81, .inl fl)), (ah, .inl (q 0, 81, .inl fh))] H locs := U.sub [4, 5, 0, 1, 2, 3] (by decide) rfl
    refine kz_ifeqB X kd_Rd_readTimes_44 rfl (fun h44 => ?_) (fun h44 => ?_)
    · refine lv_aload_n hx hb kd_Rd_readTimes_90 rfl (lv_at hl 3 rfl) ?_
      refine kz_bp X 125 kd_Rd_readTimes_91 (by decide) ?_
      refine kz_cVi (av := [.int (nI 125)]) (rest := []) (wr := [(hg, .inr (3, [.ref ak, .ref al, .ref ah, .int (nI P.length)])), (ak, .inl (q 0, 81, .inl fk)), (al, .inl (q 0, 81, .inl fl)), (ah, .inl (q 0, 81, .inl fh))]) X U hl.1 (cm_Rd_isNext l D q rd an au ai as_ hg (at_ + 1) lv len 125 src hlen hsrc (by omega) (Nat.succ_le_of_lt hat6)) (by decide) (by decide) ⟨by decide, by decide⟩ tb_298 tb_300 tb_s13 0 rfl rfl tb_9 tb_301 kq_Rd_isNext [0, 1] [2, 3, 4, 5] (by decide) rfl rfl (by decide) (by decide) rfl (Nat.le_of_ble_eq_true rfl) kd_Rd_readTimes_93 (fun rv _ H locs hp U => ?_)
      subst hp
      have U : kz_U D q s A [(rd, .inr (4, [.ref an, .ref au, .ref ai, .int (nI lv), .ref as_, .int (nI len), .int (nI (at_ + 1)), .ref hg])), (as_, .inl (q 1, 40, .inl (fun x_ => nI (src x_)))), (hg, .inr (3, [.ref ak, .ref al, .ref ah, .int (nI P.length)])), (ak, .inl (q 0, 81, .inl fk)), (al, .inl (q 0, 81, .inl fl)), (ah, .inl (q 0, 81, .inl fh))] H locs := U.sub [4, 5, 0, 1, 2, 3] (by decide) rfl
      refine kz_ifneB X kd_Rd_readTimes_96 rfl (fun h96 => ?_) (fun h96 => ?_)
      · refine lv_aload_n hx hb kd_Rd_readTimes_101 rfl (lv_at hl 3 rfl) ?_
        refine lv_dup hx hb kd_Rd_readTimes_102 rfl ?_
        refine kg_Rd_33 X U 0 rfl rfl kd_Rd_readTimes_103 ?_
        refine kz_ic X 1 kd_Rd_readTimes_106 (by decide) ?_
        refine kz_iadd X kd_Rd_readTimes_107 ?_
        refine kz_top (y := nI (at_ + 1 + 1)) rfl ?_
        refine kp_Rd_33 X U 0 rfl (Nat.le_of_ble_eq_true rfl) kd_Rd_readTimes_108 (fun H locs U => ?_)
        have U : kz_U D q s A [(rd, .inr (4, [.ref an, .ref au, .ref ai, .int (nI lv), .ref as_, .int (nI len), .int (nI (at_ + 1 + 1)), .ref hg])), (as_, .inl (q 1, 40, .inl (fun x_ => nI (src x_)))), (hg, .inr (3, [.ref ak, .ref al, .ref ah, .int (nI P.length)])), (ak, .inl (q 0, 81, .inl fk)), (al, .inl (q 0, 81, .inl fl)), (ah, .inl (q 0, 81, .inl fh))] H locs := U
        refine lv_aload_n hx hb kd_Rd_readTimes_111 rfl (lv_at hl 3 rfl) ?_
        refine kg_Rd_39 X U 0 rfl rfl kd_Rd_readTimes_112 ?_
        refine kz_bp X 6 kd_Rd_readTimes_115 (by decide) ?_
        refine lv_iload_n hx hb kd_Rd_readTimes_117 rfl (lv_at hl 1 rfl) ?_
        refine lv_iload_n hx hb kd_Rd_readTimes_118 rfl (lv_at hl 0 rfl) ?_
        refine kz_cVv (av := [.int (nI 6), .int (nI ((src at_) - 48)), .int (nI ((src at_) - 48))]) (rest := []) (wr := [(rd, .inr (4, [.ref an, .ref au, .ref ai, .int (nI lv), .ref as_, .int (nI len), .int (nI (at_ + 1 + 1)), .ref hg])), (as_, .inl (q 1, 40, .inl (fun x_ => nI (src x_))))]) X U hl.1 (cm_Pg_addP l D q hg ak al ah 6 (src at_ - 48) ((src at_) - 48 + 1) (nI ((src at_) - 48)) (P) fk fl fh (pk_m1 _).symm hP) (by decide) (by decide) ⟨by decide, by decide⟩ tb_250 tb_123 tb_124 2 rfl rfl tb_8 tb_125 kq_Pg_add [2, 3, 4, 5] [0, 1] (by decide) rfl rfl (by decide) (by decide) rfl (Nat.le_of_ble_eq_true rfl) kd_Rd_readTimes_119 (fun x H locs hxx U => ?_)
        have U : kz_U D q s A [(rd, .inr (4, [.ref an, .ref au, .ref ai, .int (nI lv), .ref as_, .int (nI len), .int (nI (at_ + 1 + 1)), .ref hg])), (as_, .inl (q 1, 40, .inl (fun x_ => nI (src x_)))), (hg, .inr (3, [.ref ak, .ref al, .ref ah, .int (nI ((pg_add P (6, src at_ - 48, (src at_) - 48 + 1)).length))])), (ak, .inl (q 0, 81, .inl x.1)), (al, .inl (q 0, 81, .inl x.2.1)), (ah, .inl (q 0, 81, .inl x.2.2))] H locs := U
        refine kz_ic X 1 kd_Rd_readTimes_122 (by decide) ?_
        refine kz_top (y := nB true) rfl ?_
        exact kz_ez hQ hA X U (((at_ + 1 + 1, pg_add P (6, src at_ - 48, src at_ - 48 + 1)), x)) rfl (by have e1 : rd_t1 src len at_ = (at_ + 1, src at_ - 48 + 1) := (if_neg (of_decide_eq_false h44)); rw [show rd_tm src len at_ P = (true, at_ + 1 + 1, pg_add P (6, src at_ - 48, src at_ - 48 + 1)) from (if_pos (of_decide_eq_true h6)).trans (by rw [e1]; exact if_pos (of_decide_eq_true h96))]; exact ⟨rfl, rfl, hxx⟩) kd_Rd_readTimes_123
      · refine kz_ic X 0 kd_Rd_readTimes_99 (by decide) ?_
        refine kz_top (y := nB false) rfl ?_
        exact kz_ez hQ hA X U (((at_ + 1, P), (fk, fl, fh))) rfl (by have e1 : rd_t1 src len at_ = (at_ + 1, src at_ - 48 + 1) := (if_neg (of_decide_eq_false h44)); rw [show rd_tm src len at_ P = (false, at_ + 1, P) from (if_pos (of_decide_eq_true h6)).trans (by rw [e1]; exact if_neg (of_decide_eq_false h96))]; exact ⟨rfl, rfl, hP⟩) kd_Rd_readTimes_100
    · have hat44 := (of_decide_eq_true h44).1
      refine lv_aload_n hx hb kd_Rd_readTimes_47 rfl (lv_at hl 3 rfl) ?_
      refine lv_dup hx hb kd_Rd_readTimes_48 rfl ?_
      refine kg_Rd_33 X U 0 rfl rfl kd_Rd_readTimes_49 ?_
      refine kz_ic X 1 kd_Rd_readTimes_52 (by decide) ?_
      refine kz_iadd X kd_Rd_readTimes_53 ?_
      refine kz_top (y := nI (at_ + 1 + 1)) rfl ?_
      refine kp_Rd_33 X U 0 rfl (Nat.le_of_ble_eq_true rfl) kd_Rd_readTimes_54 (fun H locs U => ?_)
      have U : kz_U D q s A [(rd, .inr (4, [.ref an, .ref au, .ref ai, .int (nI lv), .ref as_, .int (nI len), .int (nI (at_ + 1 + 1)), .ref hg])), (as_, .inl (q 1, 40, .inl (fun x_ => nI (src x_)))), (hg, .inr (3, [.ref ak, .ref al, .ref ah, .int (nI P.length)])), (ak, .inl (q 0, 81, .inl fk)), (al, .inl (q 0, 81, .inl fl)), (ah, .inl (q 0, 81, .inl fh))] H locs := U
      refine lv_iconst (v := (-1)) hx hb kd_Rd_readTimes_57 (by decide) ?_
      refine lv_istore_n hx hb kd_Rd_readTimes_58 rfl hl (by decide) rfl (fun ls hl => ?_)
      have hl : lv_has ls 4 [(3, .int ((-1))), (2, .int (nI ((src at_) - 48))), (1, .int (nI (src at_))), (0, .ref rd)] := hl
      refine lv_aload_n hx hb kd_Rd_readTimes_59 rfl (lv_at hl 3 rfl) ?_
      refine lv_iload_n hx hb kd_Rd_readTimes_60 rfl (lv_at hl 2 rfl) ?_
      refine kz_cVi (av := [.int (nI (src at_))]) (rest := []) (wr := [(hg, .inr (3, [.ref ak, .ref al, .ref ah, .int (nI P.length)])), (ak, .inl (q 0, 81, .inl fk)), (al, .inl (q 0, 81, .inl fl)), (ah, .inl (q 0, 81, .inl fh))]) X U hl.1 (cm_Rd_isDigitFrom l D q rd an au ai as_ hg (at_ + 1 + 1) lv len (src at_) src hlen hsrc (hsrc at_) (Nat.succ_le_of_lt hat44)) (by decide) (by decide) ⟨by decide, by decide⟩ tb_294 tb_296 tb_s12 0 rfl rfl tb_9 tb_297 kq_Rd_isDigitFrom [0, 1] [2, 3, 4, 5] (by decide) rfl rfl (by decide) (by decide) rfl (Nat.le_of_ble_eq_true rfl) kd_Rd_readTimes_61 (fun rv _ H locs hp U => ?_)
      subst hp
      have U : kz_U D q s A [(rd, .inr (4, [.ref an, .ref au, .ref ai, .int (nI lv), .ref as_, .int (nI len), .int (nI (at_ + 1 + 1)), .ref hg])), (as_, .inl (q 1, 40, .inl (fun x_ => nI (src x_)))), (hg, .inr (3, [.ref ak, .ref al, .ref ah, .int (nI P.length)])), (ak, .inl (q 0, 81, .inl fk)), (al, .inl (q 0, 81, .inl fl)), (ah, .inl (q 0, 81, .inl fh))] H locs := U.sub [4, 5, 0, 1, 2, 3] (by decide) rfl
      refine kz_ifeqB X kd_Rd_readTimes_64 rfl (fun h64 => ?_) (fun h64 => ?_)
      · refine lv_aload_n hx hb kd_Rd_readTimes_90 rfl (lv_at hl 3 rfl) ?_
        refine kz_bp X 125 kd_Rd_readTimes_91 (by decide) ?_
        refine kz_cVi (av := [.int (nI 125)]) (rest := []) (wr := [(hg, .inr (3, [.ref ak, .ref al, .ref ah, .int (nI P.length)])), (ak, .inl (q 0, 81, .inl fk)), (al, .inl (q 0, 81, .inl fl)), (ah, .inl (q 0, 81, .inl fh))]) X U hl.1 (cm_Rd_isNext l D q rd an au ai as_ hg (at_ + 1 + 1) lv len 125 src hlen hsrc (by omega) (Nat.succ_le_of_lt hat44)) (by decide) (by decide) ⟨by decide, by decide⟩ tb_298 tb_300 tb_s13 0 rfl rfl tb_9 tb_301 kq_Rd_isNext [0, 1] [2, 3, 4, 5] (by decide) rfl rfl (by decide) (by decide) rfl (Nat.le_of_ble_eq_true rfl) kd_Rd_readTimes_93 (fun rv _ H locs hp U => ?_)
        subst hp
        have U : kz_U D q s A [(rd, .inr (4, [.ref an, .ref au, .ref ai, .int (nI lv), .ref as_, .int (nI len), .int (nI (at_ + 1 + 1)), .ref hg])), (as_, .inl (q 1, 40, .inl (fun x_ => nI (src x_)))), (hg, .inr (3, [.ref ak, .ref al, .ref ah, .int (nI P.length)])), (ak, .inl (q 0, 81, .inl fk)), (al, .inl (q 0, 81, .inl fl)), (ah, .inl (q 0, 81, .inl fh))] H locs := U.sub [4, 5, 0, 1, 2, 3] (by decide) rfl
        refine kz_ifneB X kd_Rd_readTimes_96 rfl (fun h96 => ?_) (fun h96 => ?_)
        · refine lv_aload_n hx hb kd_Rd_readTimes_101 rfl (lv_at hl 3 rfl) ?_
          refine lv_dup hx hb kd_Rd_readTimes_102 rfl ?_
          refine kg_Rd_33 X U 0 rfl rfl kd_Rd_readTimes_103 ?_
          refine kz_ic X 1 kd_Rd_readTimes_106 (by decide) ?_
          refine kz_iadd X kd_Rd_readTimes_107 ?_
          refine kz_top (y := nI (at_ + 1 + 1 + 1)) rfl ?_
          refine kp_Rd_33 X U 0 rfl (Nat.le_of_ble_eq_true rfl) kd_Rd_readTimes_108 (fun H locs U => ?_)
          have U : kz_U D q s A [(rd, .inr (4, [.ref an, .ref au, .ref ai, .int (nI lv), .ref as_, .int (nI len), .int (nI (at_ + 1 + 1 + 1)), .ref hg])), (as_, .inl (q 1, 40, .inl (fun x_ => nI (src x_)))), (hg, .inr (3, [.ref ak, .ref al, .ref ah, .int (nI P.length)])), (ak, .inl (q 0, 81, .inl fk)), (al, .inl (q 0, 81, .inl fl)), (ah, .inl (q 0, 81, .inl fh))] H locs := U
          refine lv_aload_n hx hb kd_Rd_readTimes_111 rfl (lv_at hl 3 rfl) ?_
          refine kg_Rd_39 X U 0 rfl rfl kd_Rd_readTimes_112 ?_
          refine kz_bp X 6 kd_Rd_readTimes_115 (by decide) ?_
          refine lv_iload_n hx hb kd_Rd_readTimes_117 rfl (lv_at hl 1 rfl) ?_
          refine lv_iload_n hx hb kd_Rd_readTimes_118 rfl (lv_at hl 0 rfl) ?_
          refine kz_cVv (av := [.int (nI 6), .int (nI ((src at_) - 48)), .int ((-1))]) (rest := []) (wr := [(rd, .inr (4, [.ref an, .ref au, .ref ai, .int (nI lv), .ref as_, .int (nI len), .int (nI (at_ + 1 + 1 + 1)), .ref hg])), (as_, .inl (q 1, 40, .inl (fun x_ => nI (src x_))))]) X U hl.1 (cm_Pg_addP l D q hg ak al ah 6 (src at_ - 48) 0 ((-1)) (P) fk fl fh (by decide) hP) (by decide) (by decide) ⟨by decide, by decide⟩ tb_250 tb_123 tb_124 2 rfl rfl tb_8 tb_125 kq_Pg_add [2, 3, 4, 5] [0, 1] (by decide) rfl rfl (by decide) (by decide) rfl (Nat.le_of_ble_eq_true rfl) kd_Rd_readTimes_119 (fun x H locs hxx U => ?_)
          have U : kz_U D q s A [(rd, .inr (4, [.ref an, .ref au, .ref ai, .int (nI lv), .ref as_, .int (nI len), .int (nI (at_ + 1 + 1 + 1)), .ref hg])), (as_, .inl (q 1, 40, .inl (fun x_ => nI (src x_)))), (hg, .inr (3, [.ref ak, .ref al, .ref ah, .int (nI ((pg_add P (6, src at_ - 48, 0)).length))])), (ak, .inl (q 0, 81, .inl x.1)), (al, .inl (q 0, 81, .inl x.2.1)), (ah, .inl (q 0, 81, .inl x.2.2))] H locs := U
          refine kz_ic X 1 kd_Rd_readTimes_122 (by decide) ?_
          refine kz_top (y := nB true) rfl ?_
          exact kz_ez hQ hA X U (((at_ + 1 + 1 + 1, pg_add P (6, src at_ - 48, 0)), x)) rfl (by have e1 : rd_t1 src len at_ = (at_ + 1 + 1, 0) := ((if_pos (of_decide_eq_true h44)).trans (if_neg (of_decide_eq_false h64))); rw [show rd_tm src len at_ P = (true, at_ + 1 + 1 + 1, pg_add P (6, src at_ - 48, 0)) from (if_pos (of_decide_eq_true h6)).trans (by rw [e1]; exact if_pos (of_decide_eq_true h96))]; exact ⟨rfl, rfl, hxx⟩) kd_Rd_readTimes_123
        · refine kz_ic X 0 kd_Rd_readTimes_99 (by decide) ?_
          refine kz_top (y := nB false) rfl ?_
          exact kz_ez hQ hA X U (((at_ + 1 + 1, P), (fk, fl, fh))) rfl (by have e1 : rd_t1 src len at_ = (at_ + 1 + 1, 0) := ((if_pos (of_decide_eq_true h44)).trans (if_neg (of_decide_eq_false h64))); rw [show rd_tm src len at_ P = (false, at_ + 1 + 1, P) from (if_pos (of_decide_eq_true h6)).trans (by rw [e1]; exact if_neg (of_decide_eq_false h96))]; exact ⟨rfl, rfl, hP⟩) kd_Rd_readTimes_100
      · have hat64 := (of_decide_eq_true h64).1
        have h48b := (of_decide_eq_true h64).2.1
        refine lv_aload_n hx hb kd_Rd_readTimes_67 rfl (lv_at hl 3 rfl) ?_
        refine kg_Rd_26 X U 0 rfl rfl kd_Rd_readTimes_68 ?_
        refine lv_aload_n hx hb kd_Rd_readTimes_71 rfl (lv_at hl 3 rfl) ?_
        refine kg_Rd_33 X U 0 rfl rfl kd_Rd_readTimes_72 ?_
        refine kz_cald (k := at_ + 1 + 1) X U 1 rfl (by omega) (by omega) kd_Rd_readTimes_75 ?_
        refine kz_top (y := nI (src (at_ + 1 + 1))) rfl ?_
        refine kz_bp X 48 kd_Rd_readTimes_76 (by decide) ?_
        refine kz_isub X (by first | omega | (have := hsrc at_; omega) | (have := hsrc (at_ + 1); have := hsrc at_; have := hsrc (at_ + 1 + 1); omega) | (have := (of_decide_eq_true h6).2.1; omega) | (have := (of_decide_eq_true h64).2.1; have := (of_decide_eq_true h6).2.1; omega)) kd_Rd_readTimes_78 ?_
        refine lv_istore_n hx hb kd_Rd_readTimes_79 rfl hl (by decide) rfl (fun ls hl => ?_)
        have hl : lv_has ls 4 [(3, .int (nI ((src (at_ + 1 + 1)) - 48))), (2, .int (nI ((src at_) - 48))), (1, .int (nI (src at_))), (0, .ref rd)] := hl
        refine lv_aload_n hx hb kd_Rd_readTimes_80 rfl (lv_at hl 3 rfl) ?_
        refine lv_dup hx hb kd_Rd_readTimes_81 rfl ?_
        refine kg_Rd_33 X U 0 rfl rfl kd_Rd_readTimes_82 ?_
        refine kz_ic X 1 kd_Rd_readTimes_85 (by decide) ?_
        refine kz_iadd X kd_Rd_readTimes_86 ?_
        refine kz_top (y := nI (at_ + 1 + 1 + 1)) rfl ?_
        refine kp_Rd_33 X U 0 rfl (Nat.le_of_ble_eq_true rfl) kd_Rd_readTimes_87 (fun H locs U => ?_)
        have U : kz_U D q s A [(rd, .inr (4, [.ref an, .ref au, .ref ai, .int (nI lv), .ref as_, .int (nI len), .int (nI (at_ + 1 + 1 + 1)), .ref hg])), (as_, .inl (q 1, 40, .inl (fun x_ => nI (src x_)))), (hg, .inr (3, [.ref ak, .ref al, .ref ah, .int (nI P.length)])), (ak, .inl (q 0, 81, .inl fk)), (al, .inl (q 0, 81, .inl fl)), (ah, .inl (q 0, 81, .inl fh))] H locs := U
        refine lv_aload_n hx hb kd_Rd_readTimes_90 rfl (lv_at hl 3 rfl) ?_
        refine kz_bp X 125 kd_Rd_readTimes_91 (by decide) ?_
        refine kz_cVi (av := [.int (nI 125)]) (rest := []) (wr := [(hg, .inr (3, [.ref ak, .ref al, .ref ah, .int (nI P.length)])), (ak, .inl (q 0, 81, .inl fk)), (al, .inl (q 0, 81, .inl fl)), (ah, .inl (q 0, 81, .inl fh))]) X U hl.1 (cm_Rd_isNext l D q rd an au ai as_ hg (at_ + 1 + 1 + 1) lv len 125 src hlen hsrc (by omega) (Nat.succ_le_of_lt hat64)) (by decide) (by decide) ⟨by decide, by decide⟩ tb_298 tb_300 tb_s13 0 rfl rfl tb_9 tb_301 kq_Rd_isNext [0, 1] [2, 3, 4, 5] (by decide) rfl rfl (by decide) (by decide) rfl (Nat.le_of_ble_eq_true rfl) kd_Rd_readTimes_93 (fun rv _ H locs hp U => ?_)
        subst hp
        have U : kz_U D q s A [(rd, .inr (4, [.ref an, .ref au, .ref ai, .int (nI lv), .ref as_, .int (nI len), .int (nI (at_ + 1 + 1 + 1)), .ref hg])), (as_, .inl (q 1, 40, .inl (fun x_ => nI (src x_)))), (hg, .inr (3, [.ref ak, .ref al, .ref ah, .int (nI P.length)])), (ak, .inl (q 0, 81, .inl fk)), (al, .inl (q 0, 81, .inl fl)), (ah, .inl (q 0, 81, .inl fh))] H locs := U.sub [4, 5, 0, 1, 2, 3] (by decide) rfl
        refine kz_ifneB X kd_Rd_readTimes_96 rfl (fun h96 => ?_) (fun h96 => ?_)
        · refine lv_aload_n hx hb kd_Rd_readTimes_101 rfl (lv_at hl 3 rfl) ?_
          refine lv_dup hx hb kd_Rd_readTimes_102 rfl ?_
          refine kg_Rd_33 X U 0 rfl rfl kd_Rd_readTimes_103 ?_
          refine kz_ic X 1 kd_Rd_readTimes_106 (by decide) ?_
          refine kz_iadd X kd_Rd_readTimes_107 ?_
          refine kz_top (y := nI (at_ + 1 + 1 + 1 + 1)) rfl ?_
          refine kp_Rd_33 X U 0 rfl (Nat.le_of_ble_eq_true rfl) kd_Rd_readTimes_108 (fun H locs U => ?_)
          have U : kz_U D q s A [(rd, .inr (4, [.ref an, .ref au, .ref ai, .int (nI lv), .ref as_, .int (nI len), .int (nI (at_ + 1 + 1 + 1 + 1)), .ref hg])), (as_, .inl (q 1, 40, .inl (fun x_ => nI (src x_)))), (hg, .inr (3, [.ref ak, .ref al, .ref ah, .int (nI P.length)])), (ak, .inl (q 0, 81, .inl fk)), (al, .inl (q 0, 81, .inl fl)), (ah, .inl (q 0, 81, .inl fh))] H locs := U
          refine lv_aload_n hx hb kd_Rd_readTimes_111 rfl (lv_at hl 3 rfl) ?_
          refine kg_Rd_39 X U 0 rfl rfl kd_Rd_readTimes_112 ?_
          refine kz_bp X 6 kd_Rd_readTimes_115 (by decide) ?_
          refine lv_iload_n hx hb kd_Rd_readTimes_117 rfl (lv_at hl 1 rfl) ?_
          refine lv_iload_n hx hb kd_Rd_readTimes_118 rfl (lv_at hl 0 rfl) ?_
          refine kz_cVv (av := [.int (nI 6), .int (nI ((src at_) - 48)), .int (nI ((src (at_ + 1 + 1)) - 48))]) (rest := []) (wr := [(rd, .inr (4, [.ref an, .ref au, .ref ai, .int (nI lv), .ref as_, .int (nI len), .int (nI (at_ + 1 + 1 + 1 + 1)), .ref hg])), (as_, .inl (q 1, 40, .inl (fun x_ => nI (src x_))))]) X U hl.1 (cm_Pg_addP l D q hg ak al ah 6 (src at_ - 48) ((src (at_ + 1 + 1)) - 48 + 1) (nI ((src (at_ + 1 + 1)) - 48)) (P) fk fl fh (pk_m1 _).symm hP) (by decide) (by decide) ⟨by decide, by decide⟩ tb_250 tb_123 tb_124 2 rfl rfl tb_8 tb_125 kq_Pg_add [2, 3, 4, 5] [0, 1] (by decide) rfl rfl (by decide) (by decide) rfl (Nat.le_of_ble_eq_true rfl) kd_Rd_readTimes_119 (fun x H locs hxx U => ?_)
          have U : kz_U D q s A [(rd, .inr (4, [.ref an, .ref au, .ref ai, .int (nI lv), .ref as_, .int (nI len), .int (nI (at_ + 1 + 1 + 1 + 1)), .ref hg])), (as_, .inl (q 1, 40, .inl (fun x_ => nI (src x_)))), (hg, .inr (3, [.ref ak, .ref al, .ref ah, .int (nI ((pg_add P (6, src at_ - 48, (src (at_ + 1 + 1)) - 48 + 1)).length))])), (ak, .inl (q 0, 81, .inl x.1)), (al, .inl (q 0, 81, .inl x.2.1)), (ah, .inl (q 0, 81, .inl x.2.2))] H locs := U
          refine kz_ic X 1 kd_Rd_readTimes_122 (by decide) ?_
          refine kz_top (y := nB true) rfl ?_
          exact kz_ez hQ hA X U (((at_ + 1 + 1 + 1 + 1, pg_add P (6, src at_ - 48, src (at_ + 1 + 1) - 48 + 1)), x)) rfl (by have e1 : rd_t1 src len at_ = (at_ + 1 + 1 + 1, src (at_ + 1 + 1) - 48 + 1) := ((if_pos (of_decide_eq_true h44)).trans (if_pos (of_decide_eq_true h64))); rw [show rd_tm src len at_ P = (true, at_ + 1 + 1 + 1 + 1, pg_add P (6, src at_ - 48, src (at_ + 1 + 1) - 48 + 1)) from (if_pos (of_decide_eq_true h6)).trans (by rw [e1]; exact if_pos (of_decide_eq_true h96))]; exact ⟨rfl, rfl, hxx⟩) kd_Rd_readTimes_123
        · refine kz_ic X 0 kd_Rd_readTimes_99 (by decide) ?_
          refine kz_top (y := nB false) rfl ?_
          exact kz_ez hQ hA X U (((at_ + 1 + 1 + 1, P), (fk, fl, fh))) rfl (by have e1 : rd_t1 src len at_ = (at_ + 1 + 1 + 1, src (at_ + 1 + 1) - 48 + 1) := ((if_pos (of_decide_eq_true h44)).trans (if_pos (of_decide_eq_true h64))); rw [show rd_tm src len at_ P = (false, at_ + 1 + 1 + 1, P) from (if_pos (of_decide_eq_true h6)).trans (by rw [e1]; exact if_neg (of_decide_eq_false h96))]; exact ⟨rfl, rfl, hP⟩) kd_Rd_readTimes_100
  · refine kz_ic X 0 kd_Rd_readTimes_9 (by decide) ?_
    refine kz_top (y := nB false) rfl ?_
    exact kz_ez hQ hA X U (((at_, P), (fk, fl, fh))) rfl (by rw [show rd_tm src len at_ P = (false, at_, P) from if_neg (of_decide_eq_false h6)]; exact ⟨rfl, rfl, hP⟩) kd_Rd_readTimes_10

set_option maxHeartbeats 4000000 in
set_option maxRecDepth 100000 in
theorem cm_Rd_readMark (l : Launch) (D : va_G) (q : Nat → ClassId) (rd an au ai as_ hg ak al ah : Nat) (at_ lv len : Nat) (src : Nat → Nat) (P : List (Nat × Nat × Nat)) (fk fl fh : Nat → Int32) (hlen : len ≤ 40) (hat : at_ ≤ len) (hsrc : ∀ j, src j < 65536) (hP : kz_pg P fk fl fh) (hatl : at_ < len) : kz_Mi (S := (Nat × List (Nat × Nat × Nat)) × ((Nat → Int32) × (Nat → Int32) × (Nat → Int32))) l ky_Rd_readMark kb_Rd_readMark 2 (some .boolean) 2 D q [.ref rd] [(rd, .inr (4, [.ref an, .ref au, .ref ai, .int (nI lv), .ref as_, .int (nI len), .int (nI at_), .ref hg])), (as_, .inl (q 1, 40, .inl (fun x_ => nI (src x_)))), (hg, .inr (3, [.ref ak, .ref al, .ref ah, .int (nI P.length)])), (ak, .inl (q 0, 81, .inl fk)), (al, .inl (q 0, 81, .inl fl)), (ah, .inl (q 0, 81, .inl fh))] (fun r u => r = nB (rd_mr src len at_ P).1 ∧ u.1 = (rd_mr src len at_ P).2 ∧ kz_pg u.1.2 u.2.1 u.2.2.1 u.2.2.2) (fun u => [(rd, .inr (4, [.ref an, .ref au, .ref ai, .int (nI lv), .ref as_, .int (nI len), .int (nI u.1.1), .ref hg])), (as_, .inl (q 1, 40, .inl (fun x_ => nI (src x_)))), (hg, .inr (3, [.ref ak, .ref al, .ref ah, .int (nI u.1.2.length)])), (ak, .inl (q 0, 81, .inl u.2.1)), (al, .inl (q 0, 81, .inl u.2.2.1)), (ah, .inl (q 0, 81, .inl u.2.2.2))]) := by
  intro sz_
  refine kz_go (by decide +kernel) (Nat.le_of_ble_eq_true rfl) ?_
  intro p e s m below meth c ls args A Q H locs hQ hA X U hl
  have hx := X.1
  have hb := X.2.1
  have hl : lv_has ls 2 [(0, .ref rd)] := hl
  refine lv_aload_n hx hb kd_Rd_readMark_0 rfl (lv_at hl 0 rfl) ?_
  refine kg_Rd_26 X U 0 rfl rfl kd_Rd_readMark_1 ?_
  refine lv_aload_n hx hb kd_Rd_readMark_4 rfl (lv_at hl 0 rfl) ?_
  refine kg_Rd_33 X U 0 rfl rfl kd_Rd_readMark_5 ?_
  refine kz_cald (k := at_) X U 1 rfl (by omega) (by omega) kd_Rd_readMark_8 ?_
  refine kz_top (y := nI (src at_)) rfl ?_
  refine lv_istore_n hx hb kd_Rd_readMark_9 rfl hl (by decide) rfl (fun ls hl => ?_)
  have hl : lv_has ls 2 [(1, .int (nI (src at_))), (0, .ref rd)] := hl
  refine lv_aload_n hx hb kd_Rd_readMark_10 rfl (lv_at hl 1 rfl) ?_
  refine lv_dup hx hb kd_Rd_readMark_11 rfl ?_
  refine kg_Rd_33 X U 0 rfl rfl kd_Rd_readMark_12 ?_
  refine kz_ic X 1 kd_Rd_readMark_15 (by decide) ?_
  refine kz_iadd X kd_Rd_readMark_16 ?_
  refine kz_top (y := nI (at_ + 1)) rfl ?_
  refine kp_Rd_33 X U 0 rfl (Nat.le_of_ble_eq_true rfl) kd_Rd_readMark_17 (fun H locs U => ?_)
  have U : kz_U D q s A [(rd, .inr (4, [.ref an, .ref au, .ref ai, .int (nI lv), .ref as_, .int (nI len), .int (nI (at_ + 1)), .ref hg])), (as_, .inl (q 1, 40, .inl (fun x_ => nI (src x_)))), (hg, .inr (3, [.ref ak, .ref al, .ref ah, .int (nI P.length)])), (ak, .inl (q 0, 81, .inl fk)), (al, .inl (q 0, 81, .inl fl)), (ah, .inl (q 0, 81, .inl fh))] H locs := U
  refine lv_iload_n hx hb kd_Rd_readMark_20 rfl (lv_at hl 0 rfl) ?_
  refine kz_bp X 123 kd_Rd_readMark_21 (by decide) ?_
  refine kz_icne X (by first | omega | (have := hsrc at_; omega) | (have := hsrc (at_ + 1); have := hsrc at_; have := hsrc (at_ + 1 + 1); omega)) (by first | omega | (have := hsrc at_; omega) | (have := hsrc (at_ + 1); have := hsrc at_; have := hsrc (at_ + 1 + 1); omega)) kd_Rd_readMark_23 rfl (fun h23 => ?_) (fun h23 => ?_)
  · refine lv_aload_n hx hb kd_Rd_readMark_31 rfl (lv_at hl 1 rfl) ?_
    refine kg_Rd_39 X U 0 rfl rfl kd_Rd_readMark_32 ?_
    refine kz_bp X 6 kd_Rd_readMark_35 (by decide) ?_
    refine lv_iload_n hx hb kd_Rd_readMark_37 rfl (lv_at hl 0 rfl) ?_
    refine kz_bp X 43 kd_Rd_readMark_38 (by decide) ?_
    refine kz_icne X (by first | omega | (have := hsrc at_; omega) | (have := hsrc (at_ + 1); have := hsrc at_; have := hsrc (at_ + 1 + 1); omega)) (by first | omega | (have := hsrc at_; omega) | (have := hsrc (at_ + 1); have := hsrc at_; have := hsrc (at_ + 1 + 1); omega)) kd_Rd_readMark_40 rfl (fun h40 => ?_) (fun h40 => ?_)
    · refine kz_ic X 0 kd_Rd_readMark_47 (by decide) ?_
      refine lv_iload_n hx hb kd_Rd_readMark_48 rfl (lv_at hl 0 rfl) ?_
      refine kz_bp X 63 kd_Rd_readMark_49 (by decide) ?_
      refine kz_icne X (by first | omega | (have := hsrc at_; omega) | (have := hsrc (at_ + 1); have := hsrc at_; have := hsrc (at_ + 1 + 1); omega)) (by first | omega | (have := hsrc at_; omega) | (have := hsrc (at_ + 1); have := hsrc at_; have := hsrc (at_ + 1 + 1); omega)) kd_Rd_readMark_51 rfl (fun h51 => ?_) (fun h51 => ?_)
      · refine lv_iconst (v := (-1)) hx hb kd_Rd_readMark_58 (by decide) ?_
        refine kz_top (y := nI (if src at_ = 63 then 2 else 0) + (-1)) (by first | rw [if_pos h51]; decide | rw [if_neg h51]; decide) ?_
        refine kz_top2 (y := nI (if src at_ = 43 then 1 else 0)) (by first | rw [if_pos h40] | rw [if_neg h40]) ?_
        refine kz_cVv (av := [.int (nI 6), .int (nI (if src at_ = 43 then 1 else 0)), .int (nI (if src at_ = 63 then 2 else 0) + (-1))]) (rest := []) (wr := [(rd, .inr (4, [.ref an, .ref au, .ref ai, .int (nI lv), .ref as_, .int (nI len), .int (nI (at_ + 1)), .ref hg])), (as_, .inl (q 1, 40, .inl (fun x_ => nI (src x_))))]) X U hl.1 (cm_Pg_addP l D q hg ak al ah 6 (if src at_ = 43 then 1 else 0) (if src at_ = 63 then 2 else 0) ((nI (if src at_ = 63 then 2 else 0) + (-1))) (P) fk fl fh rfl hP) (by decide) (by decide) ⟨by decide, by decide⟩ tb_250 tb_123 tb_124 2 rfl rfl tb_8 tb_125 kq_Pg_add [2, 3, 4, 5] [0, 1] (by decide) rfl rfl (by decide) (by decide) rfl (Nat.le_of_ble_eq_true rfl) kd_Rd_readMark_59 (fun x H locs hxx U => ?_)
        have U : kz_U D q s A [(rd, .inr (4, [.ref an, .ref au, .ref ai, .int (nI lv), .ref as_, .int (nI len), .int (nI (at_ + 1)), .ref hg])), (as_, .inl (q 1, 40, .inl (fun x_ => nI (src x_)))), (hg, .inr (3, [.ref ak, .ref al, .ref ah, .int (nI ((pg_add P (6, if src at_ = 43 then 1 else 0, if src at_ = 63 then 2 else 0)).length))])), (ak, .inl (q 0, 81, .inl x.1)), (al, .inl (q 0, 81, .inl x.2.1)), (ah, .inl (q 0, 81, .inl x.2.2))] H locs := U
        refine kz_ic X 1 kd_Rd_readMark_62 (by decide) ?_
        refine kz_top (y := nB true) rfl ?_
        exact kz_ez hQ hA X U (((at_ + 1, _), x)) rfl (by rw [show rd_mr src len at_ P = (true, at_ + 1, pg_add P (6, (if src at_ = 43 then 1 else 0), (if src at_ = 63 then 2 else 0))) from if_neg h23]; exact ⟨rfl, rfl, hxx⟩) kd_Rd_readMark_63
      · refine kz_ic X 1 kd_Rd_readMark_54 (by decide) ?_
        refine lv_goto hx hb kd_Rd_readMark_55 rfl ?_
        refine kz_top (y := nI (if src at_ = 63 then 2 else 0) + (-1)) (by first | rw [if_pos h51]; decide | rw [if_neg h51]; decide) ?_
        refine kz_top2 (y := nI (if src at_ = 43 then 1 else 0)) (by first | rw [if_pos h40] | rw [if_neg h40]) ?_
        refine kz_cVv (av := [.int (nI 6), .int (nI (if src at_ = 43 then 1 else 0)), .int (nI (if src at_ = 63 then 2 else 0) + (-1))]) (rest := []) (wr := [(rd, .inr (4, [.ref an, .ref au, .ref ai, .int (nI lv), .ref as_, .int (nI len), .int (nI (at_ + 1)), .ref hg])), (as_, .inl (q 1, 40, .inl (fun x_ => nI (src x_))))]) X U hl.1 (cm_Pg_addP l D q hg ak al ah 6 (if src at_ = 43 then 1 else 0) (if src at_ = 63 then 2 else 0) ((nI (if src at_ = 63 then 2 else 0) + (-1))) (P) fk fl fh rfl hP) (by decide) (by decide) ⟨by decide, by decide⟩ tb_250 tb_123 tb_124 2 rfl rfl tb_8 tb_125 kq_Pg_add [2, 3, 4, 5] [0, 1] (by decide) rfl rfl (by decide) (by decide) rfl (Nat.le_of_ble_eq_true rfl) kd_Rd_readMark_59 (fun x H locs hxx U => ?_)
        have U : kz_U D q s A [(rd, .inr (4, [.ref an, .ref au, .ref ai, .int (nI lv), .ref as_, .int (nI len), .int (nI (at_ + 1)), .ref hg])), (as_, .inl (q 1, 40, .inl (fun x_ => nI (src x_)))), (hg, .inr (3, [.ref ak, .ref al, .ref ah, .int (nI ((pg_add P (6, if src at_ = 43 then 1 else 0, if src at_ = 63 then 2 else 0)).length))])), (ak, .inl (q 0, 81, .inl x.1)), (al, .inl (q 0, 81, .inl x.2.1)), (ah, .inl (q 0, 81, .inl x.2.2))] H locs := U
        refine kz_ic X 1 kd_Rd_readMark_62 (by decide) ?_
        refine kz_top (y := nB true) rfl ?_
        exact kz_ez hQ hA X U (((at_ + 1, _), x)) rfl (by rw [show rd_mr src len at_ P = (true, at_ + 1, pg_add P (6, (if src at_ = 43 then 1 else 0), (if src at_ = 63 then 2 else 0))) from if_neg h23]; exact ⟨rfl, rfl, hxx⟩) kd_Rd_readMark_63
    · refine kz_ic X 1 kd_Rd_readMark_43 (by decide) ?_
      refine lv_goto hx hb kd_Rd_readMark_44 rfl ?_
      refine lv_iload_n hx hb kd_Rd_readMark_48 rfl (lv_at hl 0 rfl) ?_
      refine kz_bp X 63 kd_Rd_readMark_49 (by decide) ?_
      refine kz_icne X (by first | omega | (have := hsrc at_; omega) | (have := hsrc (at_ + 1); have := hsrc at_; have := hsrc (at_ + 1 + 1); omega)) (by first | omega | (have := hsrc at_; omega) | (have := hsrc (at_ + 1); have := hsrc at_; have := hsrc (at_ + 1 + 1); omega)) kd_Rd_readMark_51 rfl (fun h51 => ?_) (fun h51 => ?_)
      · refine lv_iconst (v := (-1)) hx hb kd_Rd_readMark_58 (by decide) ?_
        refine kz_top (y := nI (if src at_ = 63 then 2 else 0) + (-1)) (by first | rw [if_pos h51]; decide | rw [if_neg h51]; decide) ?_
        refine kz_top2 (y := nI (if src at_ = 43 then 1 else 0)) (by first | rw [if_pos h40] | rw [if_neg h40]) ?_
        refine kz_cVv (av := [.int (nI 6), .int (nI (if src at_ = 43 then 1 else 0)), .int (nI (if src at_ = 63 then 2 else 0) + (-1))]) (rest := []) (wr := [(rd, .inr (4, [.ref an, .ref au, .ref ai, .int (nI lv), .ref as_, .int (nI len), .int (nI (at_ + 1)), .ref hg])), (as_, .inl (q 1, 40, .inl (fun x_ => nI (src x_))))]) X U hl.1 (cm_Pg_addP l D q hg ak al ah 6 (if src at_ = 43 then 1 else 0) (if src at_ = 63 then 2 else 0) ((nI (if src at_ = 63 then 2 else 0) + (-1))) (P) fk fl fh rfl hP) (by decide) (by decide) ⟨by decide, by decide⟩ tb_250 tb_123 tb_124 2 rfl rfl tb_8 tb_125 kq_Pg_add [2, 3, 4, 5] [0, 1] (by decide) rfl rfl (by decide) (by decide) rfl (Nat.le_of_ble_eq_true rfl) kd_Rd_readMark_59 (fun x H locs hxx U => ?_)
        have U : kz_U D q s A [(rd, .inr (4, [.ref an, .ref au, .ref ai, .int (nI lv), .ref as_, .int (nI len), .int (nI (at_ + 1)), .ref hg])), (as_, .inl (q 1, 40, .inl (fun x_ => nI (src x_)))), (hg, .inr (3, [.ref ak, .ref al, .ref ah, .int (nI ((pg_add P (6, if src at_ = 43 then 1 else 0, if src at_ = 63 then 2 else 0)).length))])), (ak, .inl (q 0, 81, .inl x.1)), (al, .inl (q 0, 81, .inl x.2.1)), (ah, .inl (q 0, 81, .inl x.2.2))] H locs := U
        refine kz_ic X 1 kd_Rd_readMark_62 (by decide) ?_
        refine kz_top (y := nB true) rfl ?_
        exact kz_ez hQ hA X U (((at_ + 1, _), x)) rfl (by rw [show rd_mr src len at_ P = (true, at_ + 1, pg_add P (6, (if src at_ = 43 then 1 else 0), (if src at_ = 63 then 2 else 0))) from if_neg h23]; exact ⟨rfl, rfl, hxx⟩) kd_Rd_readMark_63
      · refine kz_ic X 1 kd_Rd_readMark_54 (by decide) ?_
        refine lv_goto hx hb kd_Rd_readMark_55 rfl ?_
        refine kz_top (y := nI (if src at_ = 63 then 2 else 0) + (-1)) (by first | rw [if_pos h51]; decide | rw [if_neg h51]; decide) ?_
        refine kz_top2 (y := nI (if src at_ = 43 then 1 else 0)) (by first | rw [if_pos h40] | rw [if_neg h40]) ?_
        refine kz_cVv (av := [.int (nI 6), .int (nI (if src at_ = 43 then 1 else 0)), .int (nI (if src at_ = 63 then 2 else 0) + (-1))]) (rest := []) (wr := [(rd, .inr (4, [.ref an, .ref au, .ref ai, .int (nI lv), .ref as_, .int (nI len), .int (nI (at_ + 1)), .ref hg])), (as_, .inl (q 1, 40, .inl (fun x_ => nI (src x_))))]) X U hl.1 (cm_Pg_addP l D q hg ak al ah 6 (if src at_ = 43 then 1 else 0) (if src at_ = 63 then 2 else 0) ((nI (if src at_ = 63 then 2 else 0) + (-1))) (P) fk fl fh rfl hP) (by decide) (by decide) ⟨by decide, by decide⟩ tb_250 tb_123 tb_124 2 rfl rfl tb_8 tb_125 kq_Pg_add [2, 3, 4, 5] [0, 1] (by decide) rfl rfl (by decide) (by decide) rfl (Nat.le_of_ble_eq_true rfl) kd_Rd_readMark_59 (fun x H locs hxx U => ?_)
        have U : kz_U D q s A [(rd, .inr (4, [.ref an, .ref au, .ref ai, .int (nI lv), .ref as_, .int (nI len), .int (nI (at_ + 1)), .ref hg])), (as_, .inl (q 1, 40, .inl (fun x_ => nI (src x_)))), (hg, .inr (3, [.ref ak, .ref al, .ref ah, .int (nI ((pg_add P (6, if src at_ = 43 then 1 else 0, if src at_ = 63 then 2 else 0)).length))])), (ak, .inl (q 0, 81, .inl x.1)), (al, .inl (q 0, 81, .inl x.2.1)), (ah, .inl (q 0, 81, .inl x.2.2))] H locs := U
        refine kz_ic X 1 kd_Rd_readMark_62 (by decide) ?_
        refine kz_top (y := nB true) rfl ?_
        exact kz_ez hQ hA X U (((at_ + 1, _), x)) rfl (by rw [show rd_mr src len at_ P = (true, at_ + 1, pg_add P (6, (if src at_ = 43 then 1 else 0), (if src at_ = 63 then 2 else 0))) from if_neg h23]; exact ⟨rfl, rfl, hxx⟩) kd_Rd_readMark_63
  · refine lv_aload_n hx hb kd_Rd_readMark_26 rfl (lv_at hl 1 rfl) ?_
    refine kz_cVi (av := []) (rest := []) (wr := []) X U hl.1 (cm_Rd_readTimes l D q rd an au ai as_ hg ak al ah (at_ + 1) lv len src P fk fl fh hlen (by omega) hsrc hP) (by decide) (by decide) ⟨by decide, by decide⟩ tb_290 tb_292 tb_s11 0 rfl rfl tb_9 tb_293 kq_Rd_readTimes [0, 1, 2, 3, 4, 5] [] (by decide) rfl rfl (by decide) (by decide) rfl (Nat.le_of_ble_eq_true rfl) kd_Rd_readMark_27 (fun rv v H locs hv U => ?_)
    obtain ⟨hv1, hv2, hv3⟩ := hv
    subst hv1
    have U : kz_U D q s A [(rd, .inr (4, [.ref an, .ref au, .ref ai, .int (nI lv), .ref as_, .int (nI len), .int (nI v.1.1), .ref hg])), (as_, .inl (q 1, 40, .inl (fun x_ => nI (src x_)))), (hg, .inr (3, [.ref ak, .ref al, .ref ah, .int (nI v.1.2.length)])), (ak, .inl (q 0, 81, .inl v.2.1)), (al, .inl (q 0, 81, .inl v.2.2.1)), (ah, .inl (q 0, 81, .inl v.2.2.2))] H locs := U
    exact kz_ez hQ hA X U v rfl (by rw [show rd_mr src len at_ P = rd_tm src len (at_ + 1) P from if_pos h23]; exact ⟨rfl, hv2, hv3⟩) kd_Rd_readMark_30
