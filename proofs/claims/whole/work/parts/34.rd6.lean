theorem va_cpy_lt {f g : Nat → Nat} {n b : Nat} (hf : ∀ j, f j < b) (hg : ∀ j, g j < b) (j : Nat) : va_cpy f g 0 0 n j < b := by
  unfold va_cpy
  split
  · exact hf _
  · exact hg _

theorem rd_s0_ok {len : Nat} {no : Nat → Nat} {uo io : Nat → Bool} : rd_ok len (0, 0, va_up no 0 0, va_up uo 0 false, va_up io 0 false, pg_add [] (0, 0, 1)) := ⟨Nat.zero_le _, Nat.zero_le _, fun j hj => by have hj : j ≤ 0 := hj; show va_up no 0 0 j ≤ 0; rw [show j = 0 by omega]; exact Nat.le_refl _⟩

set_option maxHeartbeats 4000000 in
set_option maxRecDepth 100000 in
theorem cm_Rd_read (l : Launch) (D : va_G) (q : Nat → ClassId) (bb rd an au ai as_ hg ak al ah : Nat) (nb at0 lv0 len0 : Nat) (bu no0 src0 : Nat → Nat) (uo0 io0 : Nat → Bool) (P0 : List (Nat × Nat × Nat)) (fk fl fh : Nat → Int32) (hnb : nb ≤ 40) (hbu : ∀ j, bu j < 65536) (hs0 : ∀ j, src0 j < 65536) : kz_Mi (S := rd_S × ((Nat → Int32) × (Nat → Int32) × (Nat → Int32))) l ky_Rd_read kb_Rd_read 4 (some .boolean) 5 D q [.ref rd, .ref bb, .int (nI nb)] [(bb, .inl (q 1, 40, .inl (fun x_ => nI (bu x_)))), (rd, .inr (4, [.ref an, .ref au, .ref ai, .int (nI lv0), .ref as_, .int (nI len0), .int (nI at0), .ref hg])), (an, .inl (q 0, 41, .inl (fun x_ => nI (no0 x_)))), (au, .inl (q 2, 41, .inl (fun x_ => nB (uo0 x_)))), (ai, .inl (q 2, 41, .inl (fun x_ => nB (io0 x_)))), (as_, .inl (q 1, 40, .inl (fun x_ => nI (src0 x_)))), (hg, .inr (3, [.ref ak, .ref al, .ref ah, .int (nI P0.length)])), (ak, .inl (q 0, 81, .inl fk)), (al, .inl (q 0, 81, .inl fl)), (ah, .inl (q 0, 81, .inl fh))] (fun r u => r = nB (rd_rd (va_cpy bu src0 0 0 nb) nb no0 uo0 io0).1 ∧ u.1 = (rd_rd (va_cpy bu src0 0 0 nb) nb no0 uo0 io0).2 ∧ kz_pg u.1.2.2.2.2.2 u.2.1 u.2.2.1 u.2.2.2) (fun u => [(bb, .inl (q 1, 40, .inl (fun x_ => nI (bu x_)))), (rd, .inr (4, [.ref an, .ref au, .ref ai, .int (nI u.1.2.1), .ref as_, .int (nI nb), .int (nI u.1.1), .ref hg])), (an, .inl (q 0, 41, .inl (fun x_ => nI (u.1.2.2.1 x_)))), (au, .inl (q 2, 41, .inl (fun x_ => nB (u.1.2.2.2.1 x_)))), (ai, .inl (q 2, 41, .inl (fun x_ => nB (u.1.2.2.2.2.1 x_)))), (as_, .inl (q 1, 40, .inl (fun x_ => nI ((va_cpy bu src0 0 0 nb) x_)))), (hg, .inr (3, [.ref ak, .ref al, .ref ah, .int (nI u.1.2.2.2.2.2.length)])), (ak, .inl (q 0, 81, .inl u.2.1)), (al, .inl (q 0, 81, .inl u.2.2.1)), (ah, .inl (q 0, 81, .inl u.2.2.2))]) := by
  intro sz_
  refine kz_go (by decide +kernel) (Nat.le_of_ble_eq_true rfl) ?_
  intro p e s m below meth c ls args A Q H locs hQ hA X U hl
  have hx := X.1
  have hb := X.2.1
  have hl : lv_has ls 4 [(0, .ref rd), (1, .ref bb), (2, .int (nI nb))] := hl
  refine lv_aload_n hx hb kd_Rd_read_0 rfl (lv_at hl 0 rfl) ?_
  refine lv_iload_n hx hb kd_Rd_read_1 rfl (lv_at hl 2 rfl) ?_
  refine kz_bp X 40 kd_Rd_read_2 (by decide) ?_
  refine kz_min X hl.1 (by decide) (Nat.le_of_ble_eq_true rfl) (by decide) (by decide) tb_236 tb_237 tb_12 tb_238 (by first | omega | (have : no1 lv1 ≤ 40 := Nat.le_trans (hok.2.2 lv1 (Nat.le_refl _)) (Nat.le_trans hok.2.1 hnb); omega) | (have := hok.1; dsimp only at this; omega) | (have := hok.2.1; dsimp only at this; omega)) (by first | omega | (have : no1 lv1 ≤ 40 := Nat.le_trans (hok.2.2 lv1 (Nat.le_refl _)) (Nat.le_trans hok.2.1 hnb); omega) | (have := hok.1; dsimp only at this; omega) | (have := hok.2.1; dsimp only at this; omega)) kd_Rd_read_4 ?_
  refine kz_top (y := nI nb) (by rw [Nat.min_eq_left hnb]) ?_
  refine kp_Rd_30 X U 1 rfl (Nat.le_of_ble_eq_true rfl) kd_Rd_read_7 (fun H locs U => ?_)
  have U : kz_U D q s A [(bb, .inl (q 1, 40, .inl (fun x_ => nI (bu x_)))), (rd, .inr (4, [.ref an, .ref au, .ref ai, .int (nI lv0), .ref as_, .int (nI nb), .int (nI at0), .ref hg])), (an, .inl (q 0, 41, .inl (fun x_ => nI (no0 x_)))), (au, .inl (q 2, 41, .inl (fun x_ => nB (uo0 x_)))), (ai, .inl (q 2, 41, .inl (fun x_ => nB (io0 x_)))), (as_, .inl (q 1, 40, .inl (fun x_ => nI (src0 x_)))), (hg, .inr (3, [.ref ak, .ref al, .ref ah, .int (nI P0.length)])), (ak, .inl (q 0, 81, .inl fk)), (al, .inl (q 0, 81, .inl fl)), (ah, .inl (q 0, 81, .inl fh))] H locs := U
  refine lv_aload_n hx hb kd_Rd_read_10 rfl (lv_at hl 1 rfl) ?_
  refine kz_ic X 0 kd_Rd_read_11 (by decide) ?_
  refine lv_aload_n hx hb kd_Rd_read_12 rfl (lv_at hl 0 rfl) ?_
  refine kg_Rd_26 X U 1 rfl rfl kd_Rd_read_13 ?_
  refine kz_ic X 0 kd_Rd_read_16 (by decide) ?_
  refine lv_aload_n hx hb kd_Rd_read_17 rfl (lv_at hl 0 rfl) ?_
  refine kg_Rd_30 X U 1 rfl rfl kd_Rd_read_18 ?_
  refine kz_copy X U hl.1 (by decide) (Nat.le_of_ble_eq_true rfl) tb_239 tb_241 tb_240 tb_13 0 5 1 rfl rfl rfl rfl (by first | omega | (have : no1 lv1 ≤ 40 := Nat.le_trans (hok.2.2 lv1 (Nat.le_refl _)) (Nat.le_trans hok.2.1 hnb); omega) | (have := hok.1; dsimp only at this; omega) | (have := hok.2.1; dsimp only at this; omega)) (by first | omega | (have : no1 lv1 ≤ 40 := Nat.le_trans (hok.2.2 lv1 (Nat.le_refl _)) (Nat.le_trans hok.2.1 hnb); omega) | (have := hok.1; dsimp only at this; omega) | (have := hok.2.1; dsimp only at this; omega)) (by omega) (fun i _ => (pk_charN (hbu i)).2) kd_Rd_read_21 (fun H locs U => ?_)
  have U : kz_U D q s A [(bb, .inl (q 1, 40, .inl (fun x_ => nI (bu x_)))), (rd, .inr (4, [.ref an, .ref au, .ref ai, .int (nI lv0), .ref as_, .int (nI nb), .int (nI at0), .ref hg])), (an, .inl (q 0, 41, .inl (fun x_ => nI (no0 x_)))), (au, .inl (q 2, 41, .inl (fun x_ => nB (uo0 x_)))), (ai, .inl (q 2, 41, .inl (fun x_ => nB (io0 x_)))), (as_, .inl (q 1, 40, .inl (va_cpy (fun x_ => nI (bu x_)) (fun x_ => nI (src0 x_)) 0 0 nb))), (hg, .inr (3, [.ref ak, .ref al, .ref ah, .int (nI P0.length)])), (ak, .inl (q 0, 81, .inl fk)), (al, .inl (q 0, 81, .inl fl)), (ah, .inl (q 0, 81, .inl fh))] H locs := U
  rw [kz_cpyN] at U
  have U : kz_U D q s A [(bb, .inl (q 1, 40, .inl (fun x_ => nI (bu x_)))), (rd, .inr (4, [.ref an, .ref au, .ref ai, .int (nI lv0), .ref as_, .int (nI nb), .int (nI at0), .ref hg])), (an, .inl (q 0, 41, .inl (fun x_ => nI (no0 x_)))), (au, .inl (q 2, 41, .inl (fun x_ => nB (uo0 x_)))), (ai, .inl (q 2, 41, .inl (fun x_ => nB (io0 x_)))), (as_, .inl (q 1, 40, .inl (fun x_ => nI ((va_cpy bu src0 0 0 nb) x_)))), (hg, .inr (3, [.ref ak, .ref al, .ref ah, .int (nI P0.length)])), (ak, .inl (q 0, 81, .inl fk)), (al, .inl (q 0, 81, .inl fl)), (ah, .inl (q 0, 81, .inl fh))] H locs := U
  obtain ⟨src, hsrc_⟩ : ∃ src, src = va_cpy bu src0 0 0 nb := ⟨_, rfl⟩
  rw [← hsrc_] at U
  have U : kz_U D q s A [(bb, .inl (q 1, 40, .inl (fun x_ => nI (bu x_)))), (rd, .inr (4, [.ref an, .ref au, .ref ai, .int (nI lv0), .ref as_, .int (nI nb), .int (nI at0), .ref hg])), (an, .inl (q 0, 41, .inl (fun x_ => nI (no0 x_)))), (au, .inl (q 2, 41, .inl (fun x_ => nB (uo0 x_)))), (ai, .inl (q 2, 41, .inl (fun x_ => nB (io0 x_)))), (as_, .inl (q 1, 40, .inl (fun x_ => nI (src x_)))), (hg, .inr (3, [.ref ak, .ref al, .ref ah, .int (nI P0.length)])), (ak, .inl (q 0, 81, .inl fk)), (al, .inl (q 0, 81, .inl fl)), (ah, .inl (q 0, 81, .inl fh))] H locs := U
  have hsrc : ∀ j, src j < 65536 := fun j => by rw [hsrc_]; exact va_cpy_lt hbu hs0 j
  refine lv_aload_n hx hb kd_Rd_read_24 rfl (lv_at hl 0 rfl) ?_
  refine kz_ic X 0 kd_Rd_read_25 (by decide) ?_
  refine kp_Rd_33 X U 1 rfl (Nat.le_of_ble_eq_true rfl) kd_Rd_read_26 (fun H locs U => ?_)
  have U : kz_U D q s A [(bb, .inl (q 1, 40, .inl (fun x_ => nI (bu x_)))), (rd, .inr (4, [.ref an, .ref au, .ref ai, .int (nI lv0), .ref as_, .int (nI nb), .int (nI 0), .ref hg])), (an, .inl (q 0, 41, .inl (fun x_ => nI (no0 x_)))), (au, .inl (q 2, 41, .inl (fun x_ => nB (uo0 x_)))), (ai, .inl (q 2, 41, .inl (fun x_ => nB (io0 x_)))), (as_, .inl (q 1, 40, .inl (fun x_ => nI (src x_)))), (hg, .inr (3, [.ref ak, .ref al, .ref ah, .int (nI P0.length)])), (ak, .inl (q 0, 81, .inl fk)), (al, .inl (q 0, 81, .inl fl)), (ah, .inl (q 0, 81, .inl fh))] H locs := U
  refine lv_aload_n hx hb kd_Rd_read_29 rfl (lv_at hl 0 rfl) ?_
  refine kg_Rd_39 X U 1 rfl rfl kd_Rd_read_30 ?_
  refine kz_ic X 0 kd_Rd_read_33 (by decide) ?_
  refine kp_Rd_55 X U 6 rfl (Nat.le_of_ble_eq_true rfl) kd_Rd_read_34 (fun H locs U => ?_)
  have U : kz_U D q s A [(bb, .inl (q 1, 40, .inl (fun x_ => nI (bu x_)))), (rd, .inr (4, [.ref an, .ref au, .ref ai, .int (nI lv0), .ref as_, .int (nI nb), .int (nI 0), .ref hg])), (an, .inl (q 0, 41, .inl (fun x_ => nI (no0 x_)))), (au, .inl (q 2, 41, .inl (fun x_ => nB (uo0 x_)))), (ai, .inl (q 2, 41, .inl (fun x_ => nB (io0 x_)))), (as_, .inl (q 1, 40, .inl (fun x_ => nI (src x_)))), (hg, .inr (3, [.ref ak, .ref al, .ref ah, .int (nI 0)])), (ak, .inl (q 0, 81, .inl fk)), (al, .inl (q 0, 81, .inl fl)), (ah, .inl (q 0, 81, .inl fh))] H locs := U
  have U : kz_U D q s A [(bb, .inl (q 1, 40, .inl (fun x_ => nI (bu x_)))), (rd, .inr (4, [.ref an, .ref au, .ref ai, .int (nI lv0), .ref as_, .int (nI nb), .int (nI 0), .ref hg])), (an, .inl (q 0, 41, .inl (fun x_ => nI (no0 x_)))), (au, .inl (q 2, 41, .inl (fun x_ => nB (uo0 x_)))), (ai, .inl (q 2, 41, .inl (fun x_ => nB (io0 x_)))), (as_, .inl (q 1, 40, .inl (fun x_ => nI (src x_)))), (hg, .inr (3, [.ref ak, .ref al, .ref ah, .int (nI (([] : List (Nat × Nat × Nat)).length))])), (ak, .inl (q 0, 81, .inl fk)), (al, .inl (q 0, 81, .inl fl)), (ah, .inl (q 0, 81, .inl fh))] H locs := U
  refine lv_aload_n hx hb kd_Rd_read_37 rfl (lv_at hl 0 rfl) ?_
  refine kz_ic X 0 kd_Rd_read_38 (by decide) ?_
  refine kp_Rd_22 X U 1 rfl (Nat.le_of_ble_eq_true rfl) kd_Rd_read_39 (fun H locs U => ?_)
  have U : kz_U D q s A [(bb, .inl (q 1, 40, .inl (fun x_ => nI (bu x_)))), (rd, .inr (4, [.ref an, .ref au, .ref ai, .int (nI 0), .ref as_, .int (nI nb), .int (nI 0), .ref hg])), (an, .inl (q 0, 41, .inl (fun x_ => nI (no0 x_)))), (au, .inl (q 2, 41, .inl (fun x_ => nB (uo0 x_)))), (ai, .inl (q 2, 41, .inl (fun x_ => nB (io0 x_)))), (as_, .inl (q 1, 40, .inl (fun x_ => nI (src x_)))), (hg, .inr (3, [.ref ak, .ref al, .ref ah, .int (nI (([] : List (Nat × Nat × Nat)).length))])), (ak, .inl (q 0, 81, .inl fk)), (al, .inl (q 0, 81, .inl fl)), (ah, .inl (q 0, 81, .inl fh))] H locs := U
  refine lv_aload_n hx hb kd_Rd_read_42 rfl (lv_at hl 0 rfl) ?_
  refine kz_cVv (av := []) (rest := []) (wr := [(bb, .inl (q 1, 40, .inl (fun x_ => nI (bu x_))))]) X U hl.1 (cm_Rd_beginLevel l D q rd an au ai as_ hg ak al ah 0 0 nb no0 src uo0 io0 [] fk fl fh (by omega) hnb (by omega) hsrc trivial (kz_pg_nil _ _ _)) (by decide) (by decide) ⟨by decide, by decide⟩ tb_242 tb_244 tb_s0 1 rfl rfl tb_9 tb_245 kq_Rd_beginLevel [1, 2, 3, 4, 5, 6, 7, 8, 9] [0] (by decide) rfl rfl (by decide) (by decide) rfl (Nat.le_of_ble_eq_true rfl) kd_Rd_read_43 (fun w H locs hw U => ?_)
  have U : kz_U D q s A [(bb, .inl (q 1, 40, .inl (fun x_ => nI (bu x_)))), (rd, .inr (4, [.ref an, .ref au, .ref ai, .int (nI 0), .ref as_, .int (nI nb), .int (nI 0), .ref hg])), (an, .inl (q 0, 41, .inl (fun x_ => nI ((va_up no0 0 0) x_)))), (au, .inl (q 2, 41, .inl (fun x_ => nB ((va_up uo0 0 false) x_)))), (ai, .inl (q 2, 41, .inl (fun x_ => nB ((va_up io0 0 false) x_)))), (as_, .inl (q 1, 40, .inl (fun x_ => nI (src x_)))), (hg, .inr (3, [.ref ak, .ref al, .ref ah, .int (nI ((pg_add ([] : List (Nat × Nat × Nat)) (0, 0, 1)).length))])), (ak, .inl (q 0, 81, .inl w.1)), (al, .inl (q 0, 81, .inl w.2.1)), (ah, .inl (q 0, 81, .inl w.2.2))] H locs := U
  refine kz_ic X 0 kd_Rd_read_46 (by decide) ?_
  refine lv_istore_n hx hb kd_Rd_read_47 rfl hl (by decide) rfl (fun ls hl => ?_)
  have hl : lv_has ls 4 [(3, .int (nI 0)), (0, .ref rd), (1, .ref bb), (2, .int (nI nb))] := hl
  have loop48 : ∀ (fuel : Nat) (j : Nat) (at1 : Nat) (lv1 : Nat) (no1 : Nat → Nat) (uo1 : Nat → Bool) (io1 : Nat → Bool) (P1 : List (Nat × Nat × Nat)) (g1 : Nat → Int32) (g2 : Nat → Int32) (g3 : Nat → Int32) (ls : Array Slot) (H : Heap) (locs : List Loc), nb + 1 - j < fuel → (j ≤ nb) → (rd_ok nb (at1, lv1, no1, uo1, io1, P1)) → (kz_pg P1 g1 g2 g3) → (rd_lp src nb nb (rd_s0 no0 uo0 io0) = rd_lp src nb (nb - j) (at1, lv1, no1, uo1, io1, P1)) → lv_has ls 4 [(3, .int (nI j)), (0, .ref rd)] → kz_U D q s A [(bb, .inl (q 1, 40, .inl (fun x_ => nI (bu x_)))), (rd, .inr (4, [.ref an, .ref au, .ref ai, .int (nI lv1), .ref as_, .int (nI nb), .int (nI at1), .ref hg])), (an, .inl (q 0, 41, .inl (fun x_ => nI (no1 x_)))), (au, .inl (q 2, 41, .inl (fun x_ => nB (uo1 x_)))), (ai, .inl (q 2, 41, .inl (fun x_ => nB (io1 x_)))), (as_, .inl (q 1, 40, .inl (fun x_ => nI (src x_)))), (hg, .inr (3, [.ref ak, .ref al, .ref ah, .int (nI P1.length)])), (ak, .inl (q 0, 81, .inl g1)), (al, .inl (q 0, 81, .inl g2)), (ah, .inl (q 0, 81, .inl g3))] H locs → W p l e (kz_rm 5) s m args below meth c H locs 0 0 Q (F0 m 48 ls []) := by
    intro fuel
    induction fuel with
    | zero => intro j at1 lv1 no1 uo1 io1 P1 g1 g2 g3 ls H locs hme; exact absurd hme (Nat.not_lt_zero _)
    | succ fuel ih48 =>
      intro j at1 lv1 no1 uo1 io1 P1 g1 g2 g3 ls H locs hme hj hok hP1 hms hl U
      refine lv_iload_n hx hb kd_Rd_read_48 rfl (lv_at hl 0 rfl) ?_
      refine lv_aload_n hx hb kd_Rd_read_49 rfl (lv_at hl 1 rfl) ?_
      refine kg_Rd_30 X U 1 rfl rfl kd_Rd_read_50 ?_
      refine kz_icge X (by first | omega | (have : no1 lv1 ≤ 40 := Nat.le_trans (hok.2.2 lv1 (Nat.le_refl _)) (Nat.le_trans hok.2.1 hnb); omega) | (have := hok.1; dsimp only at this; omega) | (have := hok.2.1; dsimp only at this; omega)) (by first | omega | (have : no1 lv1 ≤ 40 := Nat.le_trans (hok.2.2 lv1 (Nat.le_refl _)) (Nat.le_trans hok.2.1 hnb); omega) | (have := hok.1; dsimp only at this; omega) | (have := hok.2.1; dsimp only at this; omega)) kd_Rd_read_53 rfl (fun h53 => ?_) (fun h53 => ?_)
      · have hend : rd_lp src nb nb (rd_s0 no0 uo0 io0) = (true, (at1, lv1, no1, uo1, io1, P1)) := by
          rw [hms]
          rcases Nat.eq_zero_or_pos (nb - j) with z | z
          · rw [z]; rfl
          · rw [show nb - j = (nb - j - 1) + 1 by omega]; exact if_neg (fun y => by have : at1 < nb := y; omega)
        have hlv1 : lv1 ≤ 40 := hok.1
        have hno1 : no1 lv1 ≤ 40 := Nat.le_trans (hok.2.2 lv1 (Nat.le_refl _)) (Nat.le_trans hok.2.1 hnb)
        refine lv_aload_n hx hb kd_Rd_read_82 rfl (lv_at hl 1 rfl) ?_
        refine kg_Rd_22 X U 1 rfl rfl kd_Rd_read_83 ?_
        refine kz_ngt X (by first | omega | (have : no1 lv1 ≤ 40 := Nat.le_trans (hok.2.2 lv1 (Nat.le_refl _)) (Nat.le_trans hok.2.1 hnb); omega) | (have := hok.1; dsimp only at this; omega) | (have := hok.2.1; dsimp only at this; omega)) kd_Rd_read_86 rfl (fun h86 => ?_) (fun h86 => ?_)
        · refine kz_ic X 0 kd_Rd_read_101 (by decide) ?_
          refine kz_top (y := nB false) rfl ?_
          exact kz_ez hQ hA X U (((at1, lv1, no1, uo1, io1, P1), (g1, g2, g3))) (by rw [← hsrc_]) (by rw [← hsrc_]; rw [show rd_rd src nb no0 uo0 io0 = (false, (at1, lv1, no1, uo1, io1, P1)) from by unfold rd_rd; rw [hend]; exact (if_pos rfl).trans (if_pos (by first | exact Or.inl h86 | exact Or.inr h98))]; exact ⟨rfl, rfl, hP1⟩) kd_Rd_read_102
        · refine lv_aload_n hx hb kd_Rd_read_89 rfl (lv_at hl 1 rfl) ?_
          refine kg_Rd_9 X U 1 rfl rfl kd_Rd_read_90 ?_
          refine lv_aload_n hx hb kd_Rd_read_93 rfl (lv_at hl 1 rfl) ?_
          refine kg_Rd_22 X U 1 rfl rfl kd_Rd_read_94 ?_
          refine kz_iald (k := lv1) X U 2 rfl (by omega) (by omega) kd_Rd_read_97 ?_
          refine kz_top (y := nI (no1 lv1)) rfl ?_
          refine kz_nle X (by first | omega | (have : no1 lv1 ≤ 40 := Nat.le_trans (hok.2.2 lv1 (Nat.le_refl _)) (Nat.le_trans hok.2.1 hnb); omega) | (have := hok.1; dsimp only at this; omega) | (have := hok.2.1; dsimp only at this; omega)) kd_Rd_read_98 rfl (fun h98 => ?_) (fun h98 => ?_)
          · refine lv_aload_n hx hb kd_Rd_read_103 rfl (lv_at hl 1 rfl) ?_
            refine kz_cVv (av := []) (rest := []) (wr := [(bb, .inl (q 1, 40, .inl (fun x_ => nI (bu x_))))]) X U hl.1 (cm_Rd_endUnion l D q rd an au ai as_ hg ak al ah at1 lv1 nb no1 src uo1 io1 P1 g1 g2 g3 hok.1 hnb hok.2.1 hsrc trivial hP1) (by decide) (by decide) ⟨by decide, by decide⟩ tb_259 tb_261 tb_s4 1 rfl rfl tb_9 tb_262 kq_Rd_endUnion [1, 2, 3, 4, 5, 6, 7, 8, 9] [0] (by decide) rfl rfl (by decide) (by decide) rfl (Nat.le_of_ble_eq_true rfl) kd_Rd_read_104 (fun x H locs hxx U => ?_)
            have U : kz_U D q s A [(bb, .inl (q 1, 40, .inl (fun x_ => nI (bu x_)))), (rd, .inr (4, [.ref an, .ref au, .ref ai, .int (nI lv1), .ref as_, .int (nI nb), .int (nI at1), .ref hg])), (an, .inl (q 0, 41, .inl (fun x_ => nI (no1 x_)))), (au, .inl (q 2, 41, .inl (fun x_ => nB (uo1 x_)))), (ai, .inl (q 2, 41, .inl (fun x_ => nB (io1 x_)))), (as_, .inl (q 1, 40, .inl (fun x_ => nI (src x_)))), (hg, .inr (3, [.ref ak, .ref al, .ref ah, .int (nI ((rd_eU uo1 io1 lv1 P1).length))])), (ak, .inl (q 0, 81, .inl x.1)), (al, .inl (q 0, 81, .inl x.2.1)), (ah, .inl (q 0, 81, .inl x.2.2))] H locs := U
            refine kz_ic X 1 kd_Rd_read_107 (by decide) ?_
            refine kz_top (y := nB true) rfl ?_
            exact kz_ez hQ hA X U (((at1, lv1, no1, uo1, io1, rd_eU uo1 io1 lv1 P1), x)) (by rw [← hsrc_]) (by rw [← hsrc_]; rw [show rd_rd src nb no0 uo0 io0 = (true, (at1, lv1, no1, uo1, io1, rd_eU uo1 io1 lv1 P1)) from by unfold rd_rd; rw [hend]; exact (if_pos rfl).trans (if_neg (fun z => z.elim (fun y => by have : 0 < lv1 := y; omega) (fun y => by have : 0 < no1 lv1 := y; omega)))]; exact ⟨rfl, rfl, hxx⟩) kd_Rd_read_108
          · refine kz_ic X 0 kd_Rd_read_101 (by decide) ?_
            refine kz_top (y := nB false) rfl ?_
            exact kz_ez hQ hA X U (((at1, lv1, no1, uo1, io1, P1), (g1, g2, g3))) (by rw [← hsrc_]) (by rw [← hsrc_]; rw [show rd_rd src nb no0 uo0 io0 = (false, (at1, lv1, no1, uo1, io1, P1)) from by unfold rd_rd; rw [hend]; exact (if_pos rfl).trans (if_pos (by first | exact Or.inl h86 | exact Or.inr h98))]; exact ⟨rfl, rfl, hP1⟩) kd_Rd_read_102
      · refine lv_aload_n hx hb kd_Rd_read_56 rfl (lv_at hl 1 rfl) ?_
        refine kg_Rd_33 X U 1 rfl rfl kd_Rd_read_57 ?_
        refine lv_aload_n hx hb kd_Rd_read_60 rfl (lv_at hl 1 rfl) ?_
        refine kg_Rd_30 X U 1 rfl rfl kd_Rd_read_61 ?_
        refine kz_icge X (by first | omega | (have : no1 lv1 ≤ 40 := Nat.le_trans (hok.2.2 lv1 (Nat.le_refl _)) (Nat.le_trans hok.2.1 hnb); omega) | (have := hok.1; dsimp only at this; omega) | (have := hok.2.1; dsimp only at this; omega)) (by first | omega | (have : no1 lv1 ≤ 40 := Nat.le_trans (hok.2.2 lv1 (Nat.le_refl _)) (Nat.le_trans hok.2.1 hnb); omega) | (have := hok.1; dsimp only at this; omega) | (have := hok.2.1; dsimp only at this; omega)) kd_Rd_read_64 rfl (fun h64 => ?_) (fun h64 => ?_)
        · have hend : rd_lp src nb nb (rd_s0 no0 uo0 io0) = (true, (at1, lv1, no1, uo1, io1, P1)) := by
            rw [hms]
            rcases Nat.eq_zero_or_pos (nb - j) with z | z
            · rw [z]; rfl
            · rw [show nb - j = (nb - j - 1) + 1 by omega]; exact if_neg (fun y => by have : at1 < nb := y; omega)
          have hlv1 : lv1 ≤ 40 := hok.1
          have hno1 : no1 lv1 ≤ 40 := Nat.le_trans (hok.2.2 lv1 (Nat.le_refl _)) (Nat.le_trans hok.2.1 hnb)
          refine lv_aload_n hx hb kd_Rd_read_82 rfl (lv_at hl 1 rfl) ?_
          refine kg_Rd_22 X U 1 rfl rfl kd_Rd_read_83 ?_
          refine kz_ngt X (by first | omega | (have : no1 lv1 ≤ 40 := Nat.le_trans (hok.2.2 lv1 (Nat.le_refl _)) (Nat.le_trans hok.2.1 hnb); omega) | (have := hok.1; dsimp only at this; omega) | (have := hok.2.1; dsimp only at this; omega)) kd_Rd_read_86 rfl (fun h86 => ?_) (fun h86 => ?_)
          · refine kz_ic X 0 kd_Rd_read_101 (by decide) ?_
            refine kz_top (y := nB false) rfl ?_
            exact kz_ez hQ hA X U (((at1, lv1, no1, uo1, io1, P1), (g1, g2, g3))) (by rw [← hsrc_]) (by rw [← hsrc_]; rw [show rd_rd src nb no0 uo0 io0 = (false, (at1, lv1, no1, uo1, io1, P1)) from by unfold rd_rd; rw [hend]; exact (if_pos rfl).trans (if_pos (by first | exact Or.inl h86 | exact Or.inr h98))]; exact ⟨rfl, rfl, hP1⟩) kd_Rd_read_102
          · refine lv_aload_n hx hb kd_Rd_read_89 rfl (lv_at hl 1 rfl) ?_
            refine kg_Rd_9 X U 1 rfl rfl kd_Rd_read_90 ?_
            refine lv_aload_n hx hb kd_Rd_read_93 rfl (lv_at hl 1 rfl) ?_
            refine kg_Rd_22 X U 1 rfl rfl kd_Rd_read_94 ?_
            refine kz_iald (k := lv1) X U 2 rfl (by omega) (by omega) kd_Rd_read_97 ?_
            refine kz_top (y := nI (no1 lv1)) rfl ?_
            refine kz_nle X (by first | omega | (have : no1 lv1 ≤ 40 := Nat.le_trans (hok.2.2 lv1 (Nat.le_refl _)) (Nat.le_trans hok.2.1 hnb); omega) | (have := hok.1; dsimp only at this; omega) | (have := hok.2.1; dsimp only at this; omega)) kd_Rd_read_98 rfl (fun h98 => ?_) (fun h98 => ?_)
            · refine lv_aload_n hx hb kd_Rd_read_103 rfl (lv_at hl 1 rfl) ?_
              refine kz_cVv (av := []) (rest := []) (wr := [(bb, .inl (q 1, 40, .inl (fun x_ => nI (bu x_))))]) X U hl.1 (cm_Rd_endUnion l D q rd an au ai as_ hg ak al ah at1 lv1 nb no1 src uo1 io1 P1 g1 g2 g3 hok.1 hnb hok.2.1 hsrc trivial hP1) (by decide) (by decide) ⟨by decide, by decide⟩ tb_259 tb_261 tb_s4 1 rfl rfl tb_9 tb_262 kq_Rd_endUnion [1, 2, 3, 4, 5, 6, 7, 8, 9] [0] (by decide) rfl rfl (by decide) (by decide) rfl (Nat.le_of_ble_eq_true rfl) kd_Rd_read_104 (fun x H locs hxx U => ?_)
              have U : kz_U D q s A [(bb, .inl (q 1, 40, .inl (fun x_ => nI (bu x_)))), (rd, .inr (4, [.ref an, .ref au, .ref ai, .int (nI lv1), .ref as_, .int (nI nb), .int (nI at1), .ref hg])), (an, .inl (q 0, 41, .inl (fun x_ => nI (no1 x_)))), (au, .inl (q 2, 41, .inl (fun x_ => nB (uo1 x_)))), (ai, .inl (q 2, 41, .inl (fun x_ => nB (io1 x_)))), (as_, .inl (q 1, 40, .inl (fun x_ => nI (src x_)))), (hg, .inr (3, [.ref ak, .ref al, .ref ah, .int (nI ((rd_eU uo1 io1 lv1 P1).length))])), (ak, .inl (q 0, 81, .inl x.1)), (al, .inl (q 0, 81, .inl x.2.1)), (ah, .inl (q 0, 81, .inl x.2.2))] H locs := U
              refine kz_ic X 1 kd_Rd_read_107 (by decide) ?_
              refine kz_top (y := nB true) rfl ?_
              exact kz_ez hQ hA X U (((at1, lv1, no1, uo1, io1, rd_eU uo1 io1 lv1 P1), x)) (by rw [← hsrc_]) (by rw [← hsrc_]; rw [show rd_rd src nb no0 uo0 io0 = (true, (at1, lv1, no1, uo1, io1, rd_eU uo1 io1 lv1 P1)) from by unfold rd_rd; rw [hend]; exact (if_pos rfl).trans (if_neg (fun z => z.elim (fun y => by have : 0 < lv1 := y; omega) (fun y => by have : 0 < no1 lv1 := y; omega)))]; exact ⟨rfl, rfl, hxx⟩) kd_Rd_read_108
            · refine kz_ic X 0 kd_Rd_read_101 (by decide) ?_
              refine kz_top (y := nB false) rfl ?_
              exact kz_ez hQ hA X U (((at1, lv1, no1, uo1, io1, P1), (g1, g2, g3))) (by rw [← hsrc_]) (by rw [← hsrc_]; rw [show rd_rd src nb no0 uo0 io0 = (false, (at1, lv1, no1, uo1, io1, P1)) from by unfold rd_rd; rw [hend]; exact (if_pos rfl).trans (if_pos (by first | exact Or.inl h86 | exact Or.inr h98))]; exact ⟨rfl, rfl, hP1⟩) kd_Rd_read_102
        · refine lv_aload_n hx hb kd_Rd_read_67 rfl (lv_at hl 1 rfl) ?_
          refine kz_cVi (av := []) (rest := []) (wr := [(bb, .inl (q 1, 40, .inl (fun x_ => nI (bu x_))))]) X U hl.1 (cm_Rd_readOn l D q rd an au ai as_ hg ak al ah at1 lv1 nb no1 src uo1 io1 P1 g1 g2 g3 hok.1 hnb hok.2.1 hsrc hok.2.2 hP1 h64) (by decide) (by decide) ⟨by decide, by decide⟩ tb_251 tb_253 tb_s2 1 rfl rfl tb_9 tb_254 kq_Rd_readOn [1, 2, 3, 4, 5, 6, 7, 8, 9] [0] (by decide) rfl rfl (by decide) (by decide) rfl (Nat.le_of_ble_eq_true rfl) kd_Rd_read_68 (fun rv v H locs hv U => ?_)
          obtain ⟨hv1, hv2, hv3⟩ := hv
          subst hv1
          have U : kz_U D q s A [(bb, .inl (q 1, 40, .inl (fun x_ => nI (bu x_)))), (rd, .inr (4, [.ref an, .ref au, .ref ai, .int (nI v.1.2.1), .ref as_, .int (nI nb), .int (nI v.1.1), .ref hg])), (an, .inl (q 0, 41, .inl (fun x_ => nI (v.1.2.2.1 x_)))), (au, .inl (q 2, 41, .inl (fun x_ => nB (v.1.2.2.2.1 x_)))), (ai, .inl (q 2, 41, .inl (fun x_ => nB (v.1.2.2.2.2.1 x_)))), (as_, .inl (q 1, 40, .inl (fun x_ => nI (src x_)))), (hg, .inr (3, [.ref ak, .ref al, .ref ah, .int (nI v.1.2.2.2.2.2.length)])), (ak, .inl (q 0, 81, .inl v.2.1)), (al, .inl (q 0, 81, .inl v.2.2.1)), (ah, .inl (q 0, 81, .inl v.2.2.2))] H locs := U
          refine kz_ifneB X kd_Rd_read_71 rfl (fun h71 => ?_) (fun h71 => ?_)
          · refine lv_iinc (k := 0) (v := nI (j + 1)) hx hb kd_Rd_read_76 hl rfl (nI_add j 1) (by decide) rfl (fun ls hl => ?_)
            have hl : lv_has ls 4 [(3, .int (nI (j + 1))), (0, .ref rd)] := hl
            refine lv_goto hx hb kd_Rd_read_79 rfl ?_
            exact ih48 (j + 1) _ _ _ _ _ _ _ _ _ _ _ _ (by omega) (by omega) (by have := rd_on_ok (src := src) hok h64; rw [← hv2] at this; exact this) hv3 (by rw [hms, show nb - j = (nb - (j + 1)) + 1 by omega]; refine ((if_pos h64).trans (if_pos h71)).trans ?_; rw [← hv2]) (lv_sub hl [0, 1] rfl) U
          · refine kz_ic X 0 kd_Rd_read_74 (by decide) ?_
            refine kz_top (y := nB false) rfl ?_
            exact kz_ez hQ hA X U v (by rw [← hsrc_]) (by rw [← hsrc_]; rw [show rd_rd src nb no0 uo0 io0 = rd_on src nb at1 lv1 no1 uo1 io1 P1 from by unfold rd_rd; rw [hms, show nb - j = (nb - j - 1) + 1 by omega, show rd_lp src nb ((nb - j - 1) + 1) (at1, lv1, no1, uo1, io1, P1) = rd_on src nb at1 lv1 no1 uo1 io1 P1 from (if_pos h64).trans (if_neg (by rw [h71]; decide))]; exact if_neg (by rw [h71]; decide)]; exact ⟨by rw [h71], hv2, hv3⟩) kd_Rd_read_75
  exact loop48 _ 0 0 0 (va_up no0 0 0) (va_up uo0 0 false) (va_up io0 0 false) (pg_add [] (0, 0, 1)) w.1 w.2.1 w.2.2 _ _ _ (Nat.lt_succ_self _) (by omega) rd_s0_ok hw rfl (lv_sub hl [0, 1] rfl) U
