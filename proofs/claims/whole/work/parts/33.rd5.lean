theorem rd_cl_ok {len at_ lv : Nat} {no : Nat → Nat} {uo io : Nat → Bool} {P : pg_P} (h : rd_ok len (at_, lv, no, uo, io, P)) (hl : at_ < len) : rd_ok len (rd_cl at_ lv no uo io P).2 := by
  unfold rd_cl
  split
  · exact ⟨by have := h.1; dsimp only at this ⊢; omega, hl, fun j hj => Nat.le_succ_of_le (h.2.2 j (by dsimp only at hj ⊢; omega))⟩
  · exact h

set_option maxHeartbeats 4000000 in
set_option maxRecDepth 100000 in
theorem cm_Rd_readOn (l : Launch) (D : va_G) (q : Nat → ClassId) (rd an au ai as_ hg ak al ah : Nat) (at_ lv len : Nat) (no src : Nat → Nat) (uo io : Nat → Bool) (P : List (Nat × Nat × Nat)) (fk fl fh : Nat → Int32) (hlv : lv ≤ 40) (hlen : len ≤ 40) (hat : at_ ≤ len) (hsrc : ∀ j, src j < 65536) (hno : ∀ j, j ≤ lv → no j ≤ at_) (hP : kz_pg P fk fl fh) (hatl : at_ < len) : kz_Mi (S := rd_S × ((Nat → Int32) × (Nat → Int32) × (Nat → Int32))) l ky_Rd_readOn kb_Rd_readOn 1 (some .boolean) 4 D q [.ref rd] [(rd, .inr (4, [.ref an, .ref au, .ref ai, .int (nI lv), .ref as_, .int (nI len), .int (nI at_), .ref hg])), (an, .inl (q 0, 41, .inl (fun x_ => nI (no x_)))), (au, .inl (q 2, 41, .inl (fun x_ => nB (uo x_)))), (ai, .inl (q 2, 41, .inl (fun x_ => nB (io x_)))), (as_, .inl (q 1, 40, .inl (fun x_ => nI (src x_)))), (hg, .inr (3, [.ref ak, .ref al, .ref ah, .int (nI P.length)])), (ak, .inl (q 0, 81, .inl fk)), (al, .inl (q 0, 81, .inl fl)), (ah, .inl (q 0, 81, .inl fh))] (fun r u => r = nB (rd_on src len at_ lv no uo io P).1 ∧ u.1 = (rd_on src len at_ lv no uo io P).2 ∧ kz_pg u.1.2.2.2.2.2 u.2.1 u.2.2.1 u.2.2.2) (fun u => [(rd, .inr (4, [.ref an, .ref au, .ref ai, .int (nI u.1.2.1), .ref as_, .int (nI len), .int (nI u.1.1), .ref hg])), (an, .inl (q 0, 41, .inl (fun x_ => nI (u.1.2.2.1 x_)))), (au, .inl (q 2, 41, .inl (fun x_ => nB (u.1.2.2.2.1 x_)))), (ai, .inl (q 2, 41, .inl (fun x_ => nB (u.1.2.2.2.2.1 x_)))), (as_, .inl (q 1, 40, .inl (fun x_ => nI (src x_)))), (hg, .inr (3, [.ref ak, .ref al, .ref ah, .int (nI u.1.2.2.2.2.2.length)])), (ak, .inl (q 0, 81, .inl u.2.1)), (al, .inl (q 0, 81, .inl u.2.2.1)), (ah, .inl (q 0, 81, .inl u.2.2.2))]) := by
  intro sz_
  refine kz_go (by decide +kernel) (Nat.le_of_ble_eq_true rfl) ?_
  intro p e s m below meth c ls args A Q H locs hQ hA X U hl
  have hx := X.1
  have hb := X.2.1
  have hl : lv_has ls 1 [(0, .ref rd)] := hl
  refine lv_aload_n hx hb kd_Rd_readOn_0 rfl (lv_at hl 0 rfl) ?_
  refine kg_Rd_26 X U 0 rfl rfl kd_Rd_readOn_1 ?_
  refine lv_aload_n hx hb kd_Rd_readOn_4 rfl (lv_at hl 0 rfl) ?_
  refine kg_Rd_33 X U 0 rfl rfl kd_Rd_readOn_5 ?_
  refine kz_cald (k := at_) X U 4 rfl (by omega) (by omega) kd_Rd_readOn_8 ?_
  refine kz_top (y := nI (src at_)) rfl ?_
  rcases (show (src at_) = 38 ∨ (src at_) = 40 ∨ (src at_) = 41 ∨ (src at_) = 42 ∨ (src at_) = 43 ∨ (src at_) = 46 ∨ (src at_) = 63 ∨ (src at_) = 91 ∨ (src at_) = 93 ∨ (src at_) = 123 ∨ (src at_) = 124 ∨ (src at_) = 125 ∨ (src at_) = 126 ∨ ((src at_) ≠ 38 ∧ (src at_) ≠ 40 ∧ (src at_) ≠ 41 ∧ (src at_) ≠ 42 ∧ (src at_) ≠ 43 ∧ (src at_) ≠ 46 ∧ (src at_) ≠ 63 ∧ (src at_) ≠ 91 ∧ (src at_) ≠ 93 ∧ (src at_) ≠ 123 ∧ (src at_) ≠ 124 ∧ (src at_) ≠ 125 ∧ (src at_) ≠ 126) from by omega) with hk9 | hk9 | hk9 | hk9 | hk9 | hk9 | hk9 | hk9 | hk9 | hk9 | hk9 | hk9 | hk9 | hk9
  · refine kz_top (y := nI 38) (by rw [hk9]) ?_
    refine lv_lookup (off := 120) hx hb kd_Rd_readOn_9 (by decide) (by decide) rfl ?_
    refine lv_aload_n hx hb kd_Rd_readOn_129 rfl (lv_at hl 0 rfl) ?_
    refine kz_cVi (av := []) (rest := []) (wr := []) X U hl.1 (cm_Rd_readIntersectionSign l D q rd an au ai as_ hg ak al ah at_ lv len no src uo io P fk fl fh hlv hlen hat hsrc hno hP hatl) (by decide) (by decide) ⟨by decide, by decide⟩ tb_267 tb_269 tb_s6 0 rfl rfl tb_9 tb_270 kq_Rd_readIntersectionSign [0, 1, 2, 3, 4, 5, 6, 7, 8] [] (by decide) rfl rfl (by decide) (by decide) rfl (Nat.le_of_ble_eq_true rfl) kd_Rd_readOn_130 (fun rv v H locs hv U => ?_)
    obtain ⟨hv1, hv2, hv3⟩ := hv
    subst hv1
    have U : kz_U D q s A [(rd, .inr (4, [.ref an, .ref au, .ref ai, .int (nI v.1.2.1), .ref as_, .int (nI len), .int (nI v.1.1), .ref hg])), (an, .inl (q 0, 41, .inl (fun x_ => nI (v.1.2.2.1 x_)))), (au, .inl (q 2, 41, .inl (fun x_ => nB (v.1.2.2.2.1 x_)))), (ai, .inl (q 2, 41, .inl (fun x_ => nB (v.1.2.2.2.2.1 x_)))), (as_, .inl (q 1, 40, .inl (fun x_ => nI (src x_)))), (hg, .inr (3, [.ref ak, .ref al, .ref ah, .int (nI v.1.2.2.2.2.2.length)])), (ak, .inl (q 0, 81, .inl v.2.1)), (al, .inl (q 0, 81, .inl v.2.2.1)), (ah, .inl (q 0, 81, .inl v.2.2.2))] H locs := U
    exact kz_ez hQ hA X U v rfl (by rw [show rd_on src len at_ lv no uo io P = rd_in at_ lv no uo io P from (if_neg (by rw [hk9]; decide)).trans (if_pos hk9)]; exact ⟨rfl, hv2, hv3⟩) kd_Rd_readOn_133
  · refine kz_top (y := nI 40) (by rw [hk9]) ?_
    refine lv_lookup (off := 150) hx hb kd_Rd_readOn_9 (by decide) (by decide) rfl ?_
    refine lv_aload_n hx hb kd_Rd_readOn_159 rfl (lv_at hl 0 rfl) ?_
    refine kz_cVi (av := []) (rest := []) (wr := []) X U hl.1 (cm_Rd_readOpening l D q rd an au ai as_ hg ak al ah at_ lv len no src uo io P fk fl fh hlv hlen hat hsrc hno hP hatl) (by decide) (by decide) ⟨by decide, by decide⟩ tb_271 tb_273 tb_s7 0 rfl rfl tb_9 tb_274 kq_Rd_readOpening [0, 1, 2, 3, 4, 5, 6, 7, 8] [] (by decide) rfl rfl (by decide) (by decide) rfl (Nat.le_of_ble_eq_true rfl) kd_Rd_readOn_160 (fun rv v H locs hv U => ?_)
    obtain ⟨hv1, hv2, hv3⟩ := hv
    subst hv1
    have U : kz_U D q s A [(rd, .inr (4, [.ref an, .ref au, .ref ai, .int (nI v.1.2.1), .ref as_, .int (nI len), .int (nI v.1.1), .ref hg])), (an, .inl (q 0, 41, .inl (fun x_ => nI (v.1.2.2.1 x_)))), (au, .inl (q 2, 41, .inl (fun x_ => nB (v.1.2.2.2.1 x_)))), (ai, .inl (q 2, 41, .inl (fun x_ => nB (v.1.2.2.2.2.1 x_)))), (as_, .inl (q 1, 40, .inl (fun x_ => nI (src x_)))), (hg, .inr (3, [.ref ak, .ref al, .ref ah, .int (nI v.1.2.2.2.2.2.length)])), (ak, .inl (q 0, 81, .inl v.2.1)), (al, .inl (q 0, 81, .inl v.2.2.1)), (ah, .inl (q 0, 81, .inl v.2.2.2))] H locs := U
    exact kz_ez hQ hA X U v rfl (by rw [show rd_on src len at_ lv no uo io P = rd_op at_ lv no uo io P from (if_neg (by rw [hk9]; decide)).trans ((if_neg (by rw [hk9]; decide)).trans ((if_neg (by rw [hk9]; decide)).trans (if_pos hk9)))]; exact ⟨rfl, hv2, hv3⟩) kd_Rd_readOn_163
  · refine kz_top (y := nI 41) (by rw [hk9]) ?_
    refine lv_lookup (off := 155) hx hb kd_Rd_readOn_9 (by decide) (by decide) rfl ?_
    refine lv_aload_n hx hb kd_Rd_readOn_164 rfl (lv_at hl 0 rfl) ?_
    refine kz_cVi (av := []) (rest := []) (wr := []) X U hl.1 (cm_Rd_readClosing l D q rd an au ai as_ hg ak al ah at_ lv len no src uo io P fk fl fh hlv hlen hat hsrc hno hP hatl) (by decide) (by decide) ⟨by decide, by decide⟩ tb_275 tb_277 tb_s8 0 rfl rfl tb_9 tb_278 kq_Rd_readClosing [0, 1, 2, 3, 4, 5, 6, 7, 8] [] (by decide) rfl rfl (by decide) (by decide) rfl (Nat.le_of_ble_eq_true rfl) kd_Rd_readOn_165 (fun rv v H locs hv U => ?_)
    obtain ⟨hv1, hv2, hv3⟩ := hv
    subst hv1
    have U : kz_U D q s A [(rd, .inr (4, [.ref an, .ref au, .ref ai, .int (nI v.1.2.1), .ref as_, .int (nI len), .int (nI v.1.1), .ref hg])), (an, .inl (q 0, 41, .inl (fun x_ => nI (v.1.2.2.1 x_)))), (au, .inl (q 2, 41, .inl (fun x_ => nB (v.1.2.2.2.1 x_)))), (ai, .inl (q 2, 41, .inl (fun x_ => nB (v.1.2.2.2.2.1 x_)))), (as_, .inl (q 1, 40, .inl (fun x_ => nI (src x_)))), (hg, .inr (3, [.ref ak, .ref al, .ref ah, .int (nI v.1.2.2.2.2.2.length)])), (ak, .inl (q 0, 81, .inl v.2.1)), (al, .inl (q 0, 81, .inl v.2.2.1)), (ah, .inl (q 0, 81, .inl v.2.2.2))] H locs := U
    refine kz_ifeqB X kd_Rd_readOn_168 rfl (fun h168 => ?_) (fun h168 => ?_)
    · refine kz_ic X 0 kd_Rd_readOn_182 (by decide) ?_
      refine kz_top (y := nB false) rfl ?_
      exact kz_ez hQ hA X U v rfl (by rw [show rd_on src len at_ lv no uo io P = rd_2 src len (rd_cl at_ lv no uo io P) from (if_neg (by rw [hk9]; decide)).trans ((if_neg (by rw [hk9]; decide)).trans ((if_neg (by rw [hk9]; decide)).trans ((if_neg (by rw [hk9]; decide)).trans (if_pos hk9)))), show rd_2 src len (rd_cl at_ lv no uo io P) = rd_cl at_ lv no uo io P from if_neg (by rw [h168]; decide)]; exact ⟨by rw [h168], hv2, hv3⟩) kd_Rd_readOn_183
    · have hok2 : rd_ok len v.1 := by rw [hv2]; exact rd_cl_ok ⟨hlv, hat, hno⟩ hatl
      refine lv_aload_n hx hb kd_Rd_readOn_171 rfl (lv_at hl 0 rfl) ?_
      refine kz_cVi (av := []) (rest := []) (wr := []) X U hl.1 (cm_Rd_endPiece l D q rd an au ai as_ hg ak al ah v.1.1 v.1.2.1 len v.1.2.2.1 src v.1.2.2.2.1 v.1.2.2.2.2.1 v.1.2.2.2.2.2 v.2.1 v.2.2.1 v.2.2.2 hok2.1 hlen hok2.2.1 hsrc hok2.2.2 hv3) (by decide) (by decide) ⟨by decide, by decide⟩ tb_279 tb_281 tb_s9 0 rfl rfl tb_9 tb_282 kq_Rd_endPiece [0, 1, 2, 3, 4, 5, 6, 7, 8] [] (by decide) rfl rfl (by decide) (by decide) rfl (Nat.le_of_ble_eq_true rfl) kd_Rd_readOn_172 (fun rv x H locs hxx U => ?_)
      obtain ⟨hx1, hx2, hx3⟩ := hxx
      subst hx1
      have U : kz_U D q s A [(rd, .inr (4, [.ref an, .ref au, .ref ai, .int (nI x.1.2.1), .ref as_, .int (nI len), .int (nI x.1.1), .ref hg])), (an, .inl (q 0, 41, .inl (fun x_ => nI (x.1.2.2.1 x_)))), (au, .inl (q 2, 41, .inl (fun x_ => nB (x.1.2.2.2.1 x_)))), (ai, .inl (q 2, 41, .inl (fun x_ => nB (x.1.2.2.2.2.1 x_)))), (as_, .inl (q 1, 40, .inl (fun x_ => nI (src x_)))), (hg, .inr (3, [.ref ak, .ref al, .ref ah, .int (nI x.1.2.2.2.2.2.length)])), (ak, .inl (q 0, 81, .inl x.2.1)), (al, .inl (q 0, 81, .inl x.2.2.1)), (ah, .inl (q 0, 81, .inl x.2.2.2))] H locs := U
      refine kz_ifeqB X kd_Rd_readOn_175 rfl (fun h175 => ?_) (fun h175 => ?_)
      · refine kz_ic X 0 kd_Rd_readOn_182 (by decide) ?_
        refine kz_top (y := nB false) rfl ?_
        exact kz_ez hQ hA X U x rfl (by rw [show rd_on src len at_ lv no uo io P = rd_2 src len (rd_cl at_ lv no uo io P) from (if_neg (by rw [hk9]; decide)).trans ((if_neg (by rw [hk9]; decide)).trans ((if_neg (by rw [hk9]; decide)).trans ((if_neg (by rw [hk9]; decide)).trans (if_pos hk9)))), show rd_2 src len (rd_cl at_ lv no uo io P) = rd_ep src len v.1.1 v.1.2.1 v.1.2.2.1 v.1.2.2.2.1 v.1.2.2.2.2.1 v.1.2.2.2.2.2 from by rw [hv2]; exact if_pos h168]; exact ⟨by rw [h175], hx2, hx3⟩) kd_Rd_readOn_183
      · refine kz_ic X 1 kd_Rd_readOn_178 (by decide) ?_
        refine lv_goto hx hb kd_Rd_readOn_179 rfl ?_
        refine kz_top (y := nB true) rfl ?_
        exact kz_ez hQ hA X U x rfl (by rw [show rd_on src len at_ lv no uo io P = rd_2 src len (rd_cl at_ lv no uo io P) from (if_neg (by rw [hk9]; decide)).trans ((if_neg (by rw [hk9]; decide)).trans ((if_neg (by rw [hk9]; decide)).trans ((if_neg (by rw [hk9]; decide)).trans (if_pos hk9)))), show rd_2 src len (rd_cl at_ lv no uo io P) = rd_ep src len v.1.1 v.1.2.1 v.1.2.2.1 v.1.2.2.2.1 v.1.2.2.2.2.1 v.1.2.2.2.2.2 from by rw [hv2]; exact if_pos h168]; exact ⟨by rw [h175], hx2, hx3⟩) kd_Rd_readOn_183
  · refine kz_top (y := nI 42) (by rw [hk9]) ?_
    refine lv_lookup (off := 222) hx hb kd_Rd_readOn_9 (by decide) (by decide) rfl ?_
    refine kz_ic X 0 kd_Rd_readOn_231 (by decide) ?_
    refine kz_top (y := nB false) rfl ?_
    exact kz_ez hQ hA X U (((at_, lv, no, uo, io, P), (fk, fl, fh))) rfl (by rw [show rd_on src len at_ lv no uo io P = (false, (at_, lv, no, uo, io, P)) from (if_neg (by rw [hk9]; decide)).trans ((if_neg (by rw [hk9]; decide)).trans ((if_neg (by rw [hk9]; decide)).trans ((if_neg (by rw [hk9]; decide)).trans ((if_neg (by rw [hk9]; decide)).trans ((if_neg (by rw [hk9]; decide)).trans ((if_neg (by rw [hk9]; decide)).trans (if_pos (by omega))))))))]; exact ⟨rfl, rfl, hP⟩) kd_Rd_readOn_232
  · refine kz_top (y := nI 43) (by rw [hk9]) ?_
    refine lv_lookup (off := 222) hx hb kd_Rd_readOn_9 (by decide) (by decide) rfl ?_
    refine kz_ic X 0 kd_Rd_readOn_231 (by decide) ?_
    refine kz_top (y := nB false) rfl ?_
    exact kz_ez hQ hA X U (((at_, lv, no, uo, io, P), (fk, fl, fh))) rfl (by rw [show rd_on src len at_ lv no uo io P = (false, (at_, lv, no, uo, io, P)) from (if_neg (by rw [hk9]; decide)).trans ((if_neg (by rw [hk9]; decide)).trans ((if_neg (by rw [hk9]; decide)).trans ((if_neg (by rw [hk9]; decide)).trans ((if_neg (by rw [hk9]; decide)).trans ((if_neg (by rw [hk9]; decide)).trans ((if_neg (by rw [hk9]; decide)).trans (if_pos (by omega))))))))]; exact ⟨rfl, rfl, hP⟩) kd_Rd_readOn_232
  · refine kz_top (y := nI 46) (by rw [hk9]) ?_
    refine lv_lookup (off := 195) hx hb kd_Rd_readOn_9 (by decide) (by decide) rfl ?_
    refine lv_aload_n hx hb kd_Rd_readOn_204 rfl (lv_at hl 0 rfl) ?_
    refine lv_dup hx hb kd_Rd_readOn_205 rfl ?_
    refine kg_Rd_33 X U 0 rfl rfl kd_Rd_readOn_206 ?_
    refine kz_ic X 1 kd_Rd_readOn_209 (by decide) ?_
    refine kz_iadd X kd_Rd_readOn_210 ?_
    refine kz_top (y := nI (at_ + 1)) rfl ?_
    refine kp_Rd_33 X U 0 rfl (Nat.le_of_ble_eq_true rfl) kd_Rd_readOn_211 (fun H locs U => ?_)
    have U : kz_U D q s A [(rd, .inr (4, [.ref an, .ref au, .ref ai, .int (nI lv), .ref as_, .int (nI len), .int (nI (at_ + 1)), .ref hg])), (an, .inl (q 0, 41, .inl (fun x_ => nI (no x_)))), (au, .inl (q 2, 41, .inl (fun x_ => nB (uo x_)))), (ai, .inl (q 2, 41, .inl (fun x_ => nB (io x_)))), (as_, .inl (q 1, 40, .inl (fun x_ => nI (src x_)))), (hg, .inr (3, [.ref ak, .ref al, .ref ah, .int (nI P.length)])), (ak, .inl (q 0, 81, .inl fk)), (al, .inl (q 0, 81, .inl fl)), (ah, .inl (q 0, 81, .inl fh))] H locs := U
    refine lv_aload_n hx hb kd_Rd_readOn_214 rfl (lv_at hl 0 rfl) ?_
    refine kg_Rd_39 X U 0 rfl rfl kd_Rd_readOn_215 ?_
    refine kz_ic X 1 kd_Rd_readOn_218 (by decide) ?_
    refine kz_bp X 32 kd_Rd_readOn_219 (by decide) ?_
    refine kz_bp X 126 kd_Rd_readOn_221 (by decide) ?_
    refine kz_cVv (av := [.int (nI 1), .int (nI 32), .int (nI 126)]) (rest := []) (wr := [(rd, .inr (4, [.ref an, .ref au, .ref ai, .int (nI lv), .ref as_, .int (nI len), .int (nI (at_ + 1)), .ref hg])), (an, .inl (q 0, 41, .inl (fun x_ => nI (no x_)))), (au, .inl (q 2, 41, .inl (fun x_ => nB (uo x_)))), (ai, .inl (q 2, 41, .inl (fun x_ => nB (io x_)))), (as_, .inl (q 1, 40, .inl (fun x_ => nI (src x_))))]) X U hl.1 (cm_Pg_addP l D q hg ak al ah 1 32 127 (nI 126) (P) fk fl fh (pk_m1 126).symm hP) (by decide) (by decide) ⟨by decide, by decide⟩ tb_250 tb_123 tb_124 5 rfl rfl tb_8 tb_125 kq_Pg_add [5, 6, 7, 8] [0, 1, 2, 3, 4] (by decide) rfl rfl (by decide) (by decide) rfl (Nat.le_of_ble_eq_true rfl) kd_Rd_readOn_223 (fun w H locs hw U => ?_)
    have U : kz_U D q s A [(rd, .inr (4, [.ref an, .ref au, .ref ai, .int (nI lv), .ref as_, .int (nI len), .int (nI (at_ + 1)), .ref hg])), (an, .inl (q 0, 41, .inl (fun x_ => nI (no x_)))), (au, .inl (q 2, 41, .inl (fun x_ => nB (uo x_)))), (ai, .inl (q 2, 41, .inl (fun x_ => nB (io x_)))), (as_, .inl (q 1, 40, .inl (fun x_ => nI (src x_)))), (hg, .inr (3, [.ref ak, .ref al, .ref ah, .int (nI ((pg_add P (1, 32, 127)).length))])), (ak, .inl (q 0, 81, .inl w.1)), (al, .inl (q 0, 81, .inl w.2.1)), (ah, .inl (q 0, 81, .inl w.2.2))] H locs := U
    refine lv_aload_n hx hb kd_Rd_readOn_226 rfl (lv_at hl 0 rfl) ?_
    refine kz_cVi (av := []) (rest := []) (wr := []) X U hl.1 (cm_Rd_endPiece l D q rd an au ai as_ hg ak al ah (at_ + 1) lv len no src uo io (pg_add P (1, 32, 127)) w.1 w.2.1 w.2.2 hlv hlen hatl hsrc (fun j hj => Nat.le_succ_of_le (hno j hj)) hw) (by decide) (by decide) ⟨by decide, by decide⟩ tb_279 tb_281 tb_s9 0 rfl rfl tb_9 tb_282 kq_Rd_endPiece [0, 1, 2, 3, 4, 5, 6, 7, 8] [] (by decide) rfl rfl (by decide) (by decide) rfl (Nat.le_of_ble_eq_true rfl) kd_Rd_readOn_227 (fun rv x H locs hxx U => ?_)
    obtain ⟨hx1, hx2, hx3⟩ := hxx
    subst hx1
    have U : kz_U D q s A [(rd, .inr (4, [.ref an, .ref au, .ref ai, .int (nI x.1.2.1), .ref as_, .int (nI len), .int (nI x.1.1), .ref hg])), (an, .inl (q 0, 41, .inl (fun x_ => nI (x.1.2.2.1 x_)))), (au, .inl (q 2, 41, .inl (fun x_ => nB (x.1.2.2.2.1 x_)))), (ai, .inl (q 2, 41, .inl (fun x_ => nB (x.1.2.2.2.2.1 x_)))), (as_, .inl (q 1, 40, .inl (fun x_ => nI (src x_)))), (hg, .inr (3, [.ref ak, .ref al, .ref ah, .int (nI x.1.2.2.2.2.2.length)])), (ak, .inl (q 0, 81, .inl x.2.1)), (al, .inl (q 0, 81, .inl x.2.2.1)), (ah, .inl (q 0, 81, .inl x.2.2.2))] H locs := U
    exact kz_ez hQ hA X U x rfl (by rw [show rd_on src len at_ lv no uo io P = rd_ep src len (at_ + 1) lv no uo io (pg_add P (1, 32, 127)) from (if_neg (by rw [hk9]; decide)).trans ((if_neg (by rw [hk9]; decide)).trans ((if_neg (by rw [hk9]; decide)).trans ((if_neg (by rw [hk9]; decide)).trans ((if_neg (by rw [hk9]; decide)).trans ((if_neg (by rw [hk9]; decide)).trans (if_pos hk9))))))]; exact ⟨rfl, hx2, hx3⟩) kd_Rd_readOn_230
  · refine kz_top (y := nI 63) (by rw [hk9]) ?_
    refine lv_lookup (off := 222) hx hb kd_Rd_readOn_9 (by decide) (by decide) rfl ?_
    refine kz_ic X 0 kd_Rd_readOn_231 (by decide) ?_
    refine kz_top (y := nB false) rfl ?_
    exact kz_ez hQ hA X U (((at_, lv, no, uo, io, P), (fk, fl, fh))) rfl (by rw [show rd_on src len at_ lv no uo io P = (false, (at_, lv, no, uo, io, P)) from (if_neg (by rw [hk9]; decide)).trans ((if_neg (by rw [hk9]; decide)).trans ((if_neg (by rw [hk9]; decide)).trans ((if_neg (by rw [hk9]; decide)).trans ((if_neg (by rw [hk9]; decide)).trans ((if_neg (by rw [hk9]; decide)).trans ((if_neg (by rw [hk9]; decide)).trans (if_pos (by omega))))))))]; exact ⟨rfl, rfl, hP⟩) kd_Rd_readOn_232
  · refine kz_top (y := nI 91) (by rw [hk9]) ?_
    refine lv_lookup (off := 175) hx hb kd_Rd_readOn_9 (by decide) (by decide) rfl ?_
    refine lv_aload_n hx hb kd_Rd_readOn_184 rfl (lv_at hl 0 rfl) ?_
    refine kz_cVi (av := []) (rest := []) (wr := [(an, .inl (q 0, 41, .inl (fun x_ => nI (no x_)))), (au, .inl (q 2, 41, .inl (fun x_ => nB (uo x_)))), (ai, .inl (q 2, 41, .inl (fun x_ => nB (io x_))))]) X U hl.1 (cm_Rd_readClass l D q rd an au ai as_ hg ak al ah at_ lv len src P fk fl fh hlen hat hsrc hP hatl) (by decide) (by decide) ⟨by decide, by decide⟩ tb_302 tb_304 tb_s14 0 rfl rfl tb_9 tb_305 kq_Rd_readClass [0, 4, 5, 6, 7, 8] [1, 2, 3] (by decide) rfl rfl (by decide) (by decide) rfl (Nat.le_of_ble_eq_true rfl) kd_Rd_readOn_185 (fun rv v H locs hv U => ?_)
    obtain ⟨hv1, hv2, hv3⟩ := hv
    subst hv1
    have U : kz_U D q s A [(rd, .inr (4, [.ref an, .ref au, .ref ai, .int (nI lv), .ref as_, .int (nI len), .int (nI v.1.1), .ref hg])), (an, .inl (q 0, 41, .inl (fun x_ => nI (no x_)))), (au, .inl (q 2, 41, .inl (fun x_ => nB (uo x_)))), (ai, .inl (q 2, 41, .inl (fun x_ => nB (io x_)))), (as_, .inl (q 1, 40, .inl (fun x_ => nI (src x_)))), (hg, .inr (3, [.ref ak, .ref al, .ref ah, .int (nI v.1.2.length)])), (ak, .inl (q 0, 81, .inl v.2.1)), (al, .inl (q 0, 81, .inl v.2.2.1)), (ah, .inl (q 0, 81, .inl v.2.2.2))] H locs := U.sub [3, 0, 1, 2, 4, 5, 6, 7, 8] (by decide) rfl
    refine kz_ifeqB X kd_Rd_readOn_188 rfl (fun h188 => ?_) (fun h188 => ?_)
    · refine kz_ic X 0 kd_Rd_readOn_202 (by decide) ?_
      refine kz_top (y := nB false) rfl ?_
      exact kz_ez hQ hA X U (((v.1.1, lv, no, uo, io, v.1.2), v.2)) rfl (by rw [show rd_on src len at_ lv no uo io P = rd_x2 src len lv no uo io (rd_cx src len at_ P) from (if_neg (by rw [hk9]; decide)).trans ((if_neg (by rw [hk9]; decide)).trans ((if_neg (by rw [hk9]; decide)).trans ((if_neg (by rw [hk9]; decide)).trans ((if_neg (by rw [hk9]; decide)).trans (if_pos hk9))))), show rd_x2 src len lv no uo io (rd_cx src len at_ P) = (false, (v.1.1, lv, no, uo, io, v.1.2)) from by rw [hv2]; exact if_neg (by rw [h188]; decide)]; exact ⟨rfl, rfl, hv3⟩) kd_Rd_readOn_203
    · have hcl := rd_cx_le (src := src) (P := P) hatl
      rw [← hv2] at hcl
      refine lv_aload_n hx hb kd_Rd_readOn_191 rfl (lv_at hl 0 rfl) ?_
      refine kz_cVi (av := []) (rest := []) (wr := []) X U hl.1 (cm_Rd_endPiece l D q rd an au ai as_ hg ak al ah v.1.1 lv len no src uo io v.1.2 v.2.1 v.2.2.1 v.2.2.2 hlv hlen hcl.1 hsrc (fun j hj => Nat.le_trans (hno j hj) hcl.2) hv3) (by decide) (by decide) ⟨by decide, by decide⟩ tb_279 tb_281 tb_s9 0 rfl rfl tb_9 tb_282 kq_Rd_endPiece [0, 1, 2, 3, 4, 5, 6, 7, 8] [] (by decide) rfl rfl (by decide) (by decide) rfl (Nat.le_of_ble_eq_true rfl) kd_Rd_readOn_192 (fun rv x H locs hxx U => ?_)
      obtain ⟨hx1, hx2, hx3⟩ := hxx
      subst hx1
      have U : kz_U D q s A [(rd, .inr (4, [.ref an, .ref au, .ref ai, .int (nI x.1.2.1), .ref as_, .int (nI len), .int (nI x.1.1), .ref hg])), (an, .inl (q 0, 41, .inl (fun x_ => nI (x.1.2.2.1 x_)))), (au, .inl (q 2, 41, .inl (fun x_ => nB (x.1.2.2.2.1 x_)))), (ai, .inl (q 2, 41, .inl (fun x_ => nB (x.1.2.2.2.2.1 x_)))), (as_, .inl (q 1, 40, .inl (fun x_ => nI (src x_)))), (hg, .inr (3, [.ref ak, .ref al, .ref ah, .int (nI x.1.2.2.2.2.2.length)])), (ak, .inl (q 0, 81, .inl x.2.1)), (al, .inl (q 0, 81, .inl x.2.2.1)), (ah, .inl (q 0, 81, .inl x.2.2.2))] H locs := U
      refine kz_ifeqB X kd_Rd_readOn_195 rfl (fun h195 => ?_) (fun h195 => ?_)
      · refine kz_ic X 0 kd_Rd_readOn_202 (by decide) ?_
        refine kz_top (y := nB false) rfl ?_
        exact kz_ez hQ hA X U x rfl (by rw [show rd_on src len at_ lv no uo io P = rd_x2 src len lv no uo io (rd_cx src len at_ P) from (if_neg (by rw [hk9]; decide)).trans ((if_neg (by rw [hk9]; decide)).trans ((if_neg (by rw [hk9]; decide)).trans ((if_neg (by rw [hk9]; decide)).trans ((if_neg (by rw [hk9]; decide)).trans (if_pos hk9))))), show rd_x2 src len lv no uo io (rd_cx src len at_ P) = rd_ep src len v.1.1 lv no uo io v.1.2 from by rw [hv2]; exact if_pos h188]; exact ⟨by rw [h195], hx2, hx3⟩) kd_Rd_readOn_203
      · refine kz_ic X 1 kd_Rd_readOn_198 (by decide) ?_
        refine lv_goto hx hb kd_Rd_readOn_199 rfl ?_
        refine kz_top (y := nB true) rfl ?_
        exact kz_ez hQ hA X U x rfl (by rw [show rd_on src len at_ lv no uo io P = rd_x2 src len lv no uo io (rd_cx src len at_ P) from (if_neg (by rw [hk9]; decide)).trans ((if_neg (by rw [hk9]; decide)).trans ((if_neg (by rw [hk9]; decide)).trans ((if_neg (by rw [hk9]; decide)).trans ((if_neg (by rw [hk9]; decide)).trans (if_pos hk9))))), show rd_x2 src len lv no uo io (rd_cx src len at_ P) = rd_ep src len v.1.1 lv no uo io v.1.2 from by rw [hv2]; exact if_pos h188]; exact ⟨by rw [h195], hx2, hx3⟩) kd_Rd_readOn_203
  · refine kz_top (y := nI 93) (by rw [hk9]) ?_
    refine lv_lookup (off := 222) hx hb kd_Rd_readOn_9 (by decide) (by decide) rfl ?_
    refine kz_ic X 0 kd_Rd_readOn_231 (by decide) ?_
    refine kz_top (y := nB false) rfl ?_
    exact kz_ez hQ hA X U (((at_, lv, no, uo, io, P), (fk, fl, fh))) rfl (by rw [show rd_on src len at_ lv no uo io P = (false, (at_, lv, no, uo, io, P)) from (if_neg (by rw [hk9]; decide)).trans ((if_neg (by rw [hk9]; decide)).trans ((if_neg (by rw [hk9]; decide)).trans ((if_neg (by rw [hk9]; decide)).trans ((if_neg (by rw [hk9]; decide)).trans ((if_neg (by rw [hk9]; decide)).trans ((if_neg (by rw [hk9]; decide)).trans (if_pos (by omega))))))))]; exact ⟨rfl, rfl, hP⟩) kd_Rd_readOn_232
  · refine kz_top (y := nI 123) (by rw [hk9]) ?_
    refine lv_lookup (off := 222) hx hb kd_Rd_readOn_9 (by decide) (by decide) rfl ?_
    refine kz_ic X 0 kd_Rd_readOn_231 (by decide) ?_
    refine kz_top (y := nB false) rfl ?_
    exact kz_ez hQ hA X U (((at_, lv, no, uo, io, P), (fk, fl, fh))) rfl (by rw [show rd_on src len at_ lv no uo io P = (false, (at_, lv, no, uo, io, P)) from (if_neg (by rw [hk9]; decide)).trans ((if_neg (by rw [hk9]; decide)).trans ((if_neg (by rw [hk9]; decide)).trans ((if_neg (by rw [hk9]; decide)).trans ((if_neg (by rw [hk9]; decide)).trans ((if_neg (by rw [hk9]; decide)).trans ((if_neg (by rw [hk9]; decide)).trans (if_pos (by omega))))))))]; exact ⟨rfl, rfl, hP⟩) kd_Rd_readOn_232
  · refine kz_top (y := nI 124) (by rw [hk9]) ?_
    refine lv_lookup (off := 115) hx hb kd_Rd_readOn_9 (by decide) (by decide) rfl ?_
    refine lv_aload_n hx hb kd_Rd_readOn_124 rfl (lv_at hl 0 rfl) ?_
    refine kz_cVi (av := []) (rest := []) (wr := []) X U hl.1 (cm_Rd_readUnionSign l D q rd an au ai as_ hg ak al ah at_ lv len no src uo io P fk fl fh hlv hlen hat hsrc hno hP hatl) (by decide) (by decide) ⟨by decide, by decide⟩ tb_255 tb_257 tb_s3 0 rfl rfl tb_9 tb_258 kq_Rd_readUnionSign [0, 1, 2, 3, 4, 5, 6, 7, 8] [] (by decide) rfl rfl (by decide) (by decide) rfl (Nat.le_of_ble_eq_true rfl) kd_Rd_readOn_125 (fun rv v H locs hv U => ?_)
    obtain ⟨hv1, hv2, hv3⟩ := hv
    subst hv1
    have U : kz_U D q s A [(rd, .inr (4, [.ref an, .ref au, .ref ai, .int (nI v.1.2.1), .ref as_, .int (nI len), .int (nI v.1.1), .ref hg])), (an, .inl (q 0, 41, .inl (fun x_ => nI (v.1.2.2.1 x_)))), (au, .inl (q 2, 41, .inl (fun x_ => nB (v.1.2.2.2.1 x_)))), (ai, .inl (q 2, 41, .inl (fun x_ => nB (v.1.2.2.2.2.1 x_)))), (as_, .inl (q 1, 40, .inl (fun x_ => nI (src x_)))), (hg, .inr (3, [.ref ak, .ref al, .ref ah, .int (nI v.1.2.2.2.2.2.length)])), (ak, .inl (q 0, 81, .inl v.2.1)), (al, .inl (q 0, 81, .inl v.2.2.1)), (ah, .inl (q 0, 81, .inl v.2.2.2))] H locs := U
    exact kz_ez hQ hA X U v rfl (by rw [show rd_on src len at_ lv no uo io P = rd_un at_ lv no uo io P from if_pos hk9]; exact ⟨rfl, hv2, hv3⟩) kd_Rd_readOn_128
  · refine kz_top (y := nI 125) (by rw [hk9]) ?_
    refine lv_lookup (off := 222) hx hb kd_Rd_readOn_9 (by decide) (by decide) rfl ?_
    refine kz_ic X 0 kd_Rd_readOn_231 (by decide) ?_
    refine kz_top (y := nB false) rfl ?_
    exact kz_ez hQ hA X U (((at_, lv, no, uo, io, P), (fk, fl, fh))) rfl (by rw [show rd_on src len at_ lv no uo io P = (false, (at_, lv, no, uo, io, P)) from (if_neg (by rw [hk9]; decide)).trans ((if_neg (by rw [hk9]; decide)).trans ((if_neg (by rw [hk9]; decide)).trans ((if_neg (by rw [hk9]; decide)).trans ((if_neg (by rw [hk9]; decide)).trans ((if_neg (by rw [hk9]; decide)).trans ((if_neg (by rw [hk9]; decide)).trans (if_pos (by omega))))))))]; exact ⟨rfl, rfl, hP⟩) kd_Rd_readOn_232
  · refine kz_top (y := nI 126) (by rw [hk9]) ?_
    refine lv_lookup (off := 125) hx hb kd_Rd_readOn_9 (by decide) (by decide) rfl ?_
    refine lv_aload_n hx hb kd_Rd_readOn_134 rfl (lv_at hl 0 rfl) ?_
    refine lv_dup hx hb kd_Rd_readOn_135 rfl ?_
    refine kg_Rd_33 X U 0 rfl rfl kd_Rd_readOn_136 ?_
    refine kz_ic X 1 kd_Rd_readOn_139 (by decide) ?_
    refine kz_iadd X kd_Rd_readOn_140 ?_
    refine kz_top (y := nI (at_ + 1)) rfl ?_
    refine kp_Rd_33 X U 0 rfl (Nat.le_of_ble_eq_true rfl) kd_Rd_readOn_141 (fun H locs U => ?_)
    have U : kz_U D q s A [(rd, .inr (4, [.ref an, .ref au, .ref ai, .int (nI lv), .ref as_, .int (nI len), .int (nI (at_ + 1)), .ref hg])), (an, .inl (q 0, 41, .inl (fun x_ => nI (no x_)))), (au, .inl (q 2, 41, .inl (fun x_ => nB (uo x_)))), (ai, .inl (q 2, 41, .inl (fun x_ => nB (io x_)))), (as_, .inl (q 1, 40, .inl (fun x_ => nI (src x_)))), (hg, .inr (3, [.ref ak, .ref al, .ref ah, .int (nI P.length)])), (ak, .inl (q 0, 81, .inl fk)), (al, .inl (q 0, 81, .inl fl)), (ah, .inl (q 0, 81, .inl fh))] H locs := U
    refine lv_aload_n hx hb kd_Rd_readOn_144 rfl (lv_at hl 0 rfl) ?_
    refine kg_Rd_9 X U 0 rfl rfl kd_Rd_readOn_145 ?_
    refine lv_aload_n hx hb kd_Rd_readOn_148 rfl (lv_at hl 0 rfl) ?_
    refine kg_Rd_22 X U 0 rfl rfl kd_Rd_readOn_149 ?_
    refine lv_dup2_11 hx hb kd_Rd_readOn_152 rfl rfl ?_
    refine kz_iald (k := lv) X U 1 rfl (by omega) (by omega) kd_Rd_readOn_153 ?_
    refine kz_top (y := nI (no lv)) rfl ?_
    refine kz_ic X 1 kd_Rd_readOn_154 (by decide) ?_
    refine kz_iadd X kd_Rd_readOn_155 ?_
    refine kz_top (y := nI (no lv + 1)) rfl ?_
    refine kz_iast (k := lv) X U 1 rfl (by omega) (by omega) kd_Rd_readOn_156 (fun H locs U => ?_)
    rw [kz_updN] at U
    have U : kz_U D q s A [(rd, .inr (4, [.ref an, .ref au, .ref ai, .int (nI lv), .ref as_, .int (nI len), .int (nI (at_ + 1)), .ref hg])), (an, .inl (q 0, 41, .inl (fun x_ => nI ((va_up no lv (no lv + 1)) x_)))), (au, .inl (q 2, 41, .inl (fun x_ => nB (uo x_)))), (ai, .inl (q 2, 41, .inl (fun x_ => nB (io x_)))), (as_, .inl (q 1, 40, .inl (fun x_ => nI (src x_)))), (hg, .inr (3, [.ref ak, .ref al, .ref ah, .int (nI P.length)])), (ak, .inl (q 0, 81, .inl fk)), (al, .inl (q 0, 81, .inl fl)), (ah, .inl (q 0, 81, .inl fh))] H locs := U
    refine kz_ic X 1 kd_Rd_readOn_157 (by decide) ?_
    refine kz_top (y := nB true) rfl ?_
    exact kz_ez hQ hA X U (((at_ + 1, lv, va_up no lv (no lv + 1), uo, io, P), (fk, fl, fh))) rfl (by rw [show rd_on src len at_ lv no uo io P = (true, (at_ + 1, lv, va_up no lv (no lv + 1), uo, io, P)) from (if_neg (by rw [hk9]; decide)).trans ((if_neg (by rw [hk9]; decide)).trans (if_pos hk9))]; exact ⟨rfl, rfl, hP⟩) kd_Rd_readOn_158
  · refine lv_lookup hx hb kd_Rd_readOn_9 (by decide) ((lv_osw (k := nI 38) (fun z => hk9.1 ((nI_eq (by first | omega | (have := hsrc at_; have := hno lv (Nat.le_refl _); omega)) (by omega)).mp z)) (by decide)).trans ((lv_osw (k := nI 40) (fun z => hk9.2.1 ((nI_eq (by first | omega | (have := hsrc at_; have := hno lv (Nat.le_refl _); omega)) (by omega)).mp z)) (by decide)).trans ((lv_osw (k := nI 41) (fun z => hk9.2.2.1 ((nI_eq (by first | omega | (have := hsrc at_; have := hno lv (Nat.le_refl _); omega)) (by omega)).mp z)) (by decide)).trans ((lv_osw (k := nI 42) (fun z => hk9.2.2.2.1 ((nI_eq (by first | omega | (have := hsrc at_; have := hno lv (Nat.le_refl _); omega)) (by omega)).mp z)) (by decide)).trans ((lv_osw (k := nI 43) (fun z => hk9.2.2.2.2.1 ((nI_eq (by first | omega | (have := hsrc at_; have := hno lv (Nat.le_refl _); omega)) (by omega)).mp z)) (by decide)).trans ((lv_osw (k := nI 46) (fun z => hk9.2.2.2.2.2.1 ((nI_eq (by first | omega | (have := hsrc at_; have := hno lv (Nat.le_refl _); omega)) (by omega)).mp z)) (by decide)).trans ((lv_osw (k := nI 63) (fun z => hk9.2.2.2.2.2.2.1 ((nI_eq (by first | omega | (have := hsrc at_; have := hno lv (Nat.le_refl _); omega)) (by omega)).mp z)) (by decide)).trans ((lv_osw (k := nI 91) (fun z => hk9.2.2.2.2.2.2.2.1 ((nI_eq (by first | omega | (have := hsrc at_; have := hno lv (Nat.le_refl _); omega)) (by omega)).mp z)) (by decide)).trans ((lv_osw (k := nI 93) (fun z => hk9.2.2.2.2.2.2.2.2.1 ((nI_eq (by first | omega | (have := hsrc at_; have := hno lv (Nat.le_refl _); omega)) (by omega)).mp z)) (by decide)).trans ((lv_osw (k := nI 123) (fun z => hk9.2.2.2.2.2.2.2.2.2.1 ((nI_eq (by first | omega | (have := hsrc at_; have := hno lv (Nat.le_refl _); omega)) (by omega)).mp z)) (by decide)).trans ((lv_osw (k := nI 124) (fun z => hk9.2.2.2.2.2.2.2.2.2.2.1 ((nI_eq (by first | omega | (have := hsrc at_; have := hno lv (Nat.le_refl _); omega)) (by omega)).mp z)) (by decide)).trans ((lv_osw (k := nI 125) (fun z => hk9.2.2.2.2.2.2.2.2.2.2.2.1 ((nI_eq (by first | omega | (have := hsrc at_; have := hno lv (Nat.le_refl _); omega)) (by omega)).mp z)) (by decide)).trans ((lv_osw (k := nI 126) (fun z => hk9.2.2.2.2.2.2.2.2.2.2.2.2 ((nI_eq (by first | omega | (have := hsrc at_; have := hno lv (Nat.le_refl _); omega)) (by omega)).mp z)) (by decide)).trans (rfl)))))))))))))) rfl ?_
    refine lv_aload_n hx hb kd_Rd_readOn_233 rfl (lv_at hl 0 rfl) ?_
    refine kg_Rd_39 X U 0 rfl rfl kd_Rd_readOn_234 ?_
    refine kz_ic X 1 kd_Rd_readOn_237 (by decide) ?_
    refine lv_aload_n hx hb kd_Rd_readOn_238 rfl (lv_at hl 0 rfl) ?_
    refine kg_Rd_26 X U 0 rfl rfl kd_Rd_readOn_239 ?_
    refine lv_aload_n hx hb kd_Rd_readOn_242 rfl (lv_at hl 0 rfl) ?_
    refine kg_Rd_33 X U 0 rfl rfl kd_Rd_readOn_243 ?_
    refine kz_cald (k := at_) X U 4 rfl (by omega) (by omega) kd_Rd_readOn_246 ?_
    refine kz_top (y := nI (src at_)) rfl ?_
    refine lv_aload_n hx hb kd_Rd_readOn_247 rfl (lv_at hl 0 rfl) ?_
    refine kg_Rd_26 X U 0 rfl rfl kd_Rd_readOn_248 ?_
    refine lv_aload_n hx hb kd_Rd_readOn_251 rfl (lv_at hl 0 rfl) ?_
    refine kg_Rd_33 X U 0 rfl rfl kd_Rd_readOn_252 ?_
    refine kz_cald (k := at_) X U 4 rfl (by omega) (by omega) kd_Rd_readOn_255 ?_
    refine kz_top (y := nI (src at_)) rfl ?_
    refine kz_cVv (av := [.int (nI 1), .int (nI (src at_)), .int (nI (src at_))]) (rest := []) (wr := [(rd, .inr (4, [.ref an, .ref au, .ref ai, .int (nI lv), .ref as_, .int (nI len), .int (nI at_), .ref hg])), (an, .inl (q 0, 41, .inl (fun x_ => nI (no x_)))), (au, .inl (q 2, 41, .inl (fun x_ => nB (uo x_)))), (ai, .inl (q 2, 41, .inl (fun x_ => nB (io x_)))), (as_, .inl (q 1, 40, .inl (fun x_ => nI (src x_))))]) X U hl.1 (cm_Pg_addP l D q hg ak al ah 1 (src at_) (src at_ + 1) (nI (src at_)) (P) fk fl fh (pk_m1 _).symm hP) (by decide) (by decide) ⟨by decide, by decide⟩ tb_250 tb_123 tb_124 5 rfl rfl tb_8 tb_125 kq_Pg_add [5, 6, 7, 8] [0, 1, 2, 3, 4] (by decide) rfl rfl (by decide) (by decide) rfl (Nat.le_of_ble_eq_true rfl) kd_Rd_readOn_256 (fun w H locs hw U => ?_)
    have U : kz_U D q s A [(rd, .inr (4, [.ref an, .ref au, .ref ai, .int (nI lv), .ref as_, .int (nI len), .int (nI at_), .ref hg])), (an, .inl (q 0, 41, .inl (fun x_ => nI (no x_)))), (au, .inl (q 2, 41, .inl (fun x_ => nB (uo x_)))), (ai, .inl (q 2, 41, .inl (fun x_ => nB (io x_)))), (as_, .inl (q 1, 40, .inl (fun x_ => nI (src x_)))), (hg, .inr (3, [.ref ak, .ref al, .ref ah, .int (nI ((pg_add P (1, src at_, src at_ + 1)).length))])), (ak, .inl (q 0, 81, .inl w.1)), (al, .inl (q 0, 81, .inl w.2.1)), (ah, .inl (q 0, 81, .inl w.2.2))] H locs := U
    refine lv_aload_n hx hb kd_Rd_readOn_259 rfl (lv_at hl 0 rfl) ?_
    refine lv_dup hx hb kd_Rd_readOn_260 rfl ?_
    refine kg_Rd_33 X U 0 rfl rfl kd_Rd_readOn_261 ?_
    refine kz_ic X 1 kd_Rd_readOn_264 (by decide) ?_
    refine kz_iadd X kd_Rd_readOn_265 ?_
    refine kz_top (y := nI (at_ + 1)) rfl ?_
    refine kp_Rd_33 X U 0 rfl (Nat.le_of_ble_eq_true rfl) kd_Rd_readOn_266 (fun H locs U => ?_)
    have U : kz_U D q s A [(rd, .inr (4, [.ref an, .ref au, .ref ai, .int (nI lv), .ref as_, .int (nI len), .int (nI (at_ + 1)), .ref hg])), (an, .inl (q 0, 41, .inl (fun x_ => nI (no x_)))), (au, .inl (q 2, 41, .inl (fun x_ => nB (uo x_)))), (ai, .inl (q 2, 41, .inl (fun x_ => nB (io x_)))), (as_, .inl (q 1, 40, .inl (fun x_ => nI (src x_)))), (hg, .inr (3, [.ref ak, .ref al, .ref ah, .int (nI ((pg_add P (1, src at_, src at_ + 1)).length))])), (ak, .inl (q 0, 81, .inl w.1)), (al, .inl (q 0, 81, .inl w.2.1)), (ah, .inl (q 0, 81, .inl w.2.2))] H locs := U
    refine lv_aload_n hx hb kd_Rd_readOn_269 rfl (lv_at hl 0 rfl) ?_
    refine kz_cVi (av := []) (rest := []) (wr := []) X U hl.1 (cm_Rd_endPiece l D q rd an au ai as_ hg ak al ah (at_ + 1) lv len no src uo io (pg_add P (1, src at_, src at_ + 1)) w.1 w.2.1 w.2.2 hlv hlen hatl hsrc (fun j hj => Nat.le_succ_of_le (hno j hj)) hw) (by decide) (by decide) ⟨by decide, by decide⟩ tb_279 tb_281 tb_s9 0 rfl rfl tb_9 tb_282 kq_Rd_endPiece [0, 1, 2, 3, 4, 5, 6, 7, 8] [] (by decide) rfl rfl (by decide) (by decide) rfl (Nat.le_of_ble_eq_true rfl) kd_Rd_readOn_270 (fun rv x H locs hxx U => ?_)
    obtain ⟨hx1, hx2, hx3⟩ := hxx
    subst hx1
    have U : kz_U D q s A [(rd, .inr (4, [.ref an, .ref au, .ref ai, .int (nI x.1.2.1), .ref as_, .int (nI len), .int (nI x.1.1), .ref hg])), (an, .inl (q 0, 41, .inl (fun x_ => nI (x.1.2.2.1 x_)))), (au, .inl (q 2, 41, .inl (fun x_ => nB (x.1.2.2.2.1 x_)))), (ai, .inl (q 2, 41, .inl (fun x_ => nB (x.1.2.2.2.2.1 x_)))), (as_, .inl (q 1, 40, .inl (fun x_ => nI (src x_)))), (hg, .inr (3, [.ref ak, .ref al, .ref ah, .int (nI x.1.2.2.2.2.2.length)])), (ak, .inl (q 0, 81, .inl x.2.1)), (al, .inl (q 0, 81, .inl x.2.2.1)), (ah, .inl (q 0, 81, .inl x.2.2.2))] H locs := U
    exact kz_ez hQ hA X U x rfl (by rw [show rd_on src len at_ lv no uo io P = rd_ep src len (at_ + 1) lv no uo io (pg_add P (1, src at_, src at_ + 1)) from (if_neg (by omega)).trans ((if_neg (by omega)).trans ((if_neg (by omega)).trans ((if_neg (by omega)).trans ((if_neg (by omega)).trans ((if_neg (by omega)).trans ((if_neg (by omega)).trans (if_neg (by omega))))))))]; exact ⟨rfl, hx2, hx3⟩) kd_Rd_readOn_273
