set_option maxHeartbeats 4000000 in
set_option maxRecDepth 100000 in
theorem cm_Rd_endPiece (l : Launch) (D : va_G) (q : Nat → ClassId) (rd an au ai as_ hg ak al ah : Nat) (at_ lv len : Nat) (no src : Nat → Nat) (uo io : Nat → Bool) (P : List (Nat × Nat × Nat)) (fk fl fh : Nat → Int32) (hlv : lv ≤ 40) (hlen : len ≤ 40) (hat : at_ ≤ len) (hsrc : ∀ j, src j < 65536) (hno : ∀ j, j ≤ lv → no j ≤ at_) (hP : kz_pg P fk fl fh) : kz_Mi (S := rd_S × ((Nat → Int32) × (Nat → Int32) × (Nat → Int32))) l ky_Rd_endPiece kb_Rd_endPiece 2 (some .boolean) 3 D q [.ref rd] [(rd, .inr (4, [.ref an, .ref au, .ref ai, .int (nI lv), .ref as_, .int (nI len), .int (nI at_), .ref hg])), (an, .inl (q 0, 41, .inl (fun x_ => nI (no x_)))), (au, .inl (q 2, 41, .inl (fun x_ => nB (uo x_)))), (ai, .inl (q 2, 41, .inl (fun x_ => nB (io x_)))), (as_, .inl (q 1, 40, .inl (fun x_ => nI (src x_)))), (hg, .inr (3, [.ref ak, .ref al, .ref ah, .int (nI P.length)])), (ak, .inl (q 0, 81, .inl fk)), (al, .inl (q 0, 81, .inl fl)), (ah, .inl (q 0, 81, .inl fh))] (fun r u => r = nB (rd_ep src len at_ lv no uo io P).1 ∧ u.1 = (rd_ep src len at_ lv no uo io P).2 ∧ kz_pg u.1.2.2.2.2.2 u.2.1 u.2.2.1 u.2.2.2) (fun u => [(rd, .inr (4, [.ref an, .ref au, .ref ai, .int (nI u.1.2.1), .ref as_, .int (nI len), .int (nI u.1.1), .ref hg])), (an, .inl (q 0, 41, .inl (fun x_ => nI (u.1.2.2.1 x_)))), (au, .inl (q 2, 41, .inl (fun x_ => nB (u.1.2.2.2.1 x_)))), (ai, .inl (q 2, 41, .inl (fun x_ => nB (u.1.2.2.2.2.1 x_)))), (as_, .inl (q 1, 40, .inl (fun x_ => nI (src x_)))), (hg, .inr (3, [.ref ak, .ref al, .ref ah, .int (nI u.1.2.2.2.2.2.length)])), (ak, .inl (q 0, 81, .inl u.2.1)), (al, .inl (q 0, 81, .inl u.2.2.1)), (ah, .inl (q 0, 81, .inl u.2.2.2))]) := by
  intro sz_
  refine kz_go (by decide +kernel) (Nat.le_of_ble_eq_true rfl) ?_
  intro p e s m below meth c ls args A Q H locs hQ hA X U hl
  have hx := X.1
  have hb := X.2.1
  have hl : lv_has ls 2 [(0, .ref rd)] := hl
  refine kz_ic X 0 kd_Rd_endPiece_0 (by decide) ?_
  refine lv_istore_n hx hb kd_Rd_endPiece_1 rfl hl (by decide) rfl (fun ls hl => ?_)
  have hl : lv_has ls 2 [(1, .int (nI 0)), (0, .ref rd)] := hl
  have loop2 : ∀ (fuel : Nat) (j : Nat) (at1 : Nat) (P1 : List (Nat × Nat × Nat)) (g1 : Nat → Int32) (g2 : Nat → Int32) (g3 : Nat → Int32) (ls : Array Slot) (H : Heap) (locs : List Loc), len + 1 - j < fuel → (j ≤ len) → (at1 ≤ len) → (kz_pg P1 g1 g2 g3) → (rd_ms src len len at_ P = rd_ms src len (len - j) at1 P1) → lv_has ls 2 [(1, .int (nI j)), (0, .ref rd)] → kz_U D q s A [(rd, .inr (4, [.ref an, .ref au, .ref ai, .int (nI lv), .ref as_, .int (nI len), .int (nI at1), .ref hg])), (an, .inl (q 0, 41, .inl (fun x_ => nI (no x_)))), (au, .inl (q 2, 41, .inl (fun x_ => nB (uo x_)))), (ai, .inl (q 2, 41, .inl (fun x_ => nB (io x_)))), (as_, .inl (q 1, 40, .inl (fun x_ => nI (src x_)))), (hg, .inr (3, [.ref ak, .ref al, .ref ah, .int (nI P1.length)])), (ak, .inl (q 0, 81, .inl g1)), (al, .inl (q 0, 81, .inl g2)), (ah, .inl (q 0, 81, .inl g3))] H locs → W p l e (kz_rm 3) s m args below meth c H locs 0 0 Q (F0 m 2 ls []) := by
    intro fuel
    induction fuel with
    | zero => intro j at1 P1 g1 g2 g3 ls H locs hme; exact absurd hme (Nat.not_lt_zero _)
    | succ fuel ih2 =>
      intro j at1 P1 g1 g2 g3 ls H locs hme hj hat1 hP1 hms hl U
      refine lv_iload_n hx hb kd_Rd_endPiece_2 rfl (lv_at hl 0 rfl) ?_
      refine lv_aload_n hx hb kd_Rd_endPiece_3 rfl (lv_at hl 1 rfl) ?_
      refine kg_Rd_30 X U 0 rfl rfl kd_Rd_endPiece_4 ?_
      refine kz_icge X (by first | omega | (have := hsrc at1; have := hno lv (Nat.le_refl _); omega)) (by first | omega | (have := hsrc at1; have := hno lv (Nat.le_refl _); omega)) kd_Rd_endPiece_7 rfl (fun h7 => ?_) (fun h7 => ?_)
      · have hend : rd_ms src len len at_ P = (true, at1, P1) := by
          rw [hms]
          rcases Nat.eq_zero_or_pos (len - j) with z | z
          · rw [z]; rfl
          · rw [show len - j = (len - j - 1) + 1 by omega]; exact if_neg (fun y => by first | omega | (have := y.2; rw [h33] at this; cases this))
        refine kz_ic X 0 kd_Rd_endPiece_51 (by decide) ?_
        refine lv_istore_n hx hb kd_Rd_endPiece_52 rfl hl (by decide) rfl (fun ls hl => ?_)
        have hl : lv_has ls 2 [(1, .int (nI 0)), (0, .ref rd)] := hl
        have loop53 : ∀ (fuel : Nat) (k : Nat) (e1 : Nat → Int32) (e2 : Nat → Int32) (e3 : Nat → Int32) (ls : Array Slot) (H : Heap) (locs : List Loc), no lv + 1 - k < fuel → (k ≤ no lv) → (kz_pg (rd_nt k P1) e1 e2 e3) → lv_has ls 2 [(1, .int (nI k)), (0, .ref rd)] → kz_U D q s A [(rd, .inr (4, [.ref an, .ref au, .ref ai, .int (nI lv), .ref as_, .int (nI len), .int (nI at1), .ref hg])), (an, .inl (q 0, 41, .inl (fun x_ => nI (no x_)))), (au, .inl (q 2, 41, .inl (fun x_ => nB (uo x_)))), (ai, .inl (q 2, 41, .inl (fun x_ => nB (io x_)))), (as_, .inl (q 1, 40, .inl (fun x_ => nI (src x_)))), (hg, .inr (3, [.ref ak, .ref al, .ref ah, .int (nI ((rd_nt k P1).length))])), (ak, .inl (q 0, 81, .inl e1)), (al, .inl (q 0, 81, .inl e2)), (ah, .inl (q 0, 81, .inl e3))] H locs → W p l e (kz_rm 3) s m args below meth c H locs 0 0 Q (F0 m 53 ls []) := by
          intro fuel
          induction fuel with
          | zero => intro k e1 e2 e3 ls H locs hme; exact absurd hme (Nat.not_lt_zero _)
          | succ fuel ih53 =>
            intro k e1 e2 e3 ls H locs hme hk hPk hl U
            refine lv_iload_n hx hb kd_Rd_endPiece_53 rfl (lv_at hl 0 rfl) ?_
            refine lv_aload_n hx hb kd_Rd_endPiece_54 rfl (lv_at hl 1 rfl) ?_
            refine kg_Rd_9 X U 0 rfl rfl kd_Rd_endPiece_55 ?_
            refine lv_aload_n hx hb kd_Rd_endPiece_58 rfl (lv_at hl 1 rfl) ?_
            refine kg_Rd_22 X U 0 rfl rfl kd_Rd_endPiece_59 ?_
            refine kz_iald (k := lv) X U 1 rfl (by omega) (by omega) kd_Rd_endPiece_62 ?_
            refine kz_top (y := nI (no lv)) rfl ?_
            refine kz_icge X (by first | omega | (have := hsrc at1; have := hno lv (Nat.le_refl _); omega)) (by first | omega | (have := hsrc at1; have := hno lv (Nat.le_refl _); omega)) kd_Rd_endPiece_63 rfl (fun h63 => ?_) (fun h63 => ?_)
            · obtain rfl : no lv = k := by omega
              refine lv_aload_n hx hb kd_Rd_endPiece_82 rfl (lv_at hl 1 rfl) ?_
              refine kg_Rd_9 X U 0 rfl rfl kd_Rd_endPiece_83 ?_
              refine lv_aload_n hx hb kd_Rd_endPiece_86 rfl (lv_at hl 1 rfl) ?_
              refine kg_Rd_22 X U 0 rfl rfl kd_Rd_endPiece_87 ?_
              refine kz_ic X 0 kd_Rd_endPiece_90 (by decide) ?_
              refine kz_iast (k := lv) X U 1 rfl (by omega) (by omega) kd_Rd_endPiece_91 (fun H locs U => ?_)
              rw [kz_updN] at U
              have U : kz_U D q s A [(rd, .inr (4, [.ref an, .ref au, .ref ai, .int (nI lv), .ref as_, .int (nI len), .int (nI at1), .ref hg])), (an, .inl (q 0, 41, .inl (fun x_ => nI ((va_up no lv 0) x_)))), (au, .inl (q 2, 41, .inl (fun x_ => nB (uo x_)))), (ai, .inl (q 2, 41, .inl (fun x_ => nB (io x_)))), (as_, .inl (q 1, 40, .inl (fun x_ => nI (src x_)))), (hg, .inr (3, [.ref ak, .ref al, .ref ah, .int (nI ((rd_nt (no lv) P1).length))])), (ak, .inl (q 0, 81, .inl e1)), (al, .inl (q 0, 81, .inl e2)), (ah, .inl (q 0, 81, .inl e3))] H locs := U
              refine lv_aload_n hx hb kd_Rd_endPiece_92 rfl (lv_at hl 1 rfl) ?_
              refine kg_Rd_39 X U 0 rfl rfl kd_Rd_endPiece_93 ?_
              refine kz_ic X 2 kd_Rd_endPiece_96 (by decide) ?_
              refine kz_ic X 0 kd_Rd_endPiece_97 (by decide) ?_
              refine kz_ic X 0 kd_Rd_endPiece_98 (by decide) ?_
              refine kz_cVv (av := [.int (nI 2), .int (nI 0), .int (nI 0)]) (rest := []) (wr := [(rd, .inr (4, [.ref an, .ref au, .ref ai, .int (nI lv), .ref as_, .int (nI len), .int (nI at1), .ref hg])), (an, .inl (q 0, 41, .inl (fun x_ => nI ((va_up no lv 0) x_)))), (au, .inl (q 2, 41, .inl (fun x_ => nB (uo x_)))), (ai, .inl (q 2, 41, .inl (fun x_ => nB (io x_)))), (as_, .inl (q 1, 40, .inl (fun x_ => nI (src x_))))]) X U hl.1 (cm_Pg_addP l D q hg ak al ah 2 0 1 (nI 0) (rd_nt (no lv) P1) e1 e2 e3 (pk_m1 0).symm hPk) (by decide) (by decide) ⟨by decide, by decide⟩ tb_250 tb_123 tb_124 5 rfl rfl tb_8 tb_125 kq_Pg_add [5, 6, 7, 8] [0, 1, 2, 3, 4] (by decide) rfl rfl (by decide) (by decide) rfl (Nat.le_of_ble_eq_true rfl) kd_Rd_endPiece_99 (fun x H locs hxx U => ?_)
              have U : kz_U D q s A [(rd, .inr (4, [.ref an, .ref au, .ref ai, .int (nI lv), .ref as_, .int (nI len), .int (nI at1), .ref hg])), (an, .inl (q 0, 41, .inl (fun x_ => nI ((va_up no lv 0) x_)))), (au, .inl (q 2, 41, .inl (fun x_ => nB (uo x_)))), (ai, .inl (q 2, 41, .inl (fun x_ => nB (io x_)))), (as_, .inl (q 1, 40, .inl (fun x_ => nI (src x_)))), (hg, .inr (3, [.ref ak, .ref al, .ref ah, .int (nI ((pg_add (rd_nt (no lv) P1) (2, 0, 1)).length))])), (ak, .inl (q 0, 81, .inl x.1)), (al, .inl (q 0, 81, .inl x.2.1)), (ah, .inl (q 0, 81, .inl x.2.2))] H locs := U
              refine kz_ic X 1 kd_Rd_endPiece_102 (by decide) ?_
              refine kz_top (y := nB true) rfl ?_
              exact kz_ez hQ hA X U (((at1, lv, va_up no lv 0, uo, io, pg_add (rd_nt (no lv) P1) (2, 0, 1)), x)) rfl (by rw [rd_ep_t hend]; exact ⟨rfl, rfl, hxx⟩) kd_Rd_endPiece_103
            · refine lv_aload_n hx hb kd_Rd_endPiece_66 rfl (lv_at hl 1 rfl) ?_
              refine kg_Rd_39 X U 0 rfl rfl kd_Rd_endPiece_67 ?_
              refine kz_ic X 5 kd_Rd_endPiece_70 (by decide) ?_
              refine kz_ic X 0 kd_Rd_endPiece_71 (by decide) ?_
              refine kz_ic X 0 kd_Rd_endPiece_72 (by decide) ?_
              refine kz_cVv (av := [.int (nI 5), .int (nI 0), .int (nI 0)]) (rest := []) (wr := [(rd, .inr (4, [.ref an, .ref au, .ref ai, .int (nI lv), .ref as_, .int (nI len), .int (nI at1), .ref hg])), (an, .inl (q 0, 41, .inl (fun x_ => nI (no x_)))), (au, .inl (q 2, 41, .inl (fun x_ => nB (uo x_)))), (ai, .inl (q 2, 41, .inl (fun x_ => nB (io x_)))), (as_, .inl (q 1, 40, .inl (fun x_ => nI (src x_))))]) X U hl.1 (cm_Pg_addP l D q hg ak al ah 5 0 1 (nI 0) (rd_nt k P1) e1 e2 e3 (pk_m1 0).symm hPk) (by decide) (by decide) ⟨by decide, by decide⟩ tb_250 tb_123 tb_124 5 rfl rfl tb_8 tb_125 kq_Pg_add [5, 6, 7, 8] [0, 1, 2, 3, 4] (by decide) rfl rfl (by decide) (by decide) rfl (Nat.le_of_ble_eq_true rfl) kd_Rd_endPiece_73 (fun y H locs hy U => ?_)
              have U : kz_U D q s A [(rd, .inr (4, [.ref an, .ref au, .ref ai, .int (nI lv), .ref as_, .int (nI len), .int (nI at1), .ref hg])), (an, .inl (q 0, 41, .inl (fun x_ => nI (no x_)))), (au, .inl (q 2, 41, .inl (fun x_ => nB (uo x_)))), (ai, .inl (q 2, 41, .inl (fun x_ => nB (io x_)))), (as_, .inl (q 1, 40, .inl (fun x_ => nI (src x_)))), (hg, .inr (3, [.ref ak, .ref al, .ref ah, .int (nI ((pg_add (rd_nt k P1) (5, 0, 1)).length))])), (ak, .inl (q 0, 81, .inl y.1)), (al, .inl (q 0, 81, .inl y.2.1)), (ah, .inl (q 0, 81, .inl y.2.2))] H locs := U
              refine lv_iinc (k := 0) (v := nI (k + 1)) hx hb kd_Rd_endPiece_76 hl rfl (nI_add k 1) (by decide) rfl (fun ls hl => ?_)
              have hl : lv_has ls 2 [(1, .int (nI (k + 1))), (0, .ref rd)] := hl
              refine lv_goto hx hb kd_Rd_endPiece_79 rfl ?_
              exact ih53 (k + 1) _ _ _ _ _ _ (by omega) (by omega) hy (lv_sub hl [0, 1] rfl) U
        exact loop53 _ 0 g1 g2 g3 _ _ _ (Nat.lt_succ_self _) (by omega) hP1 (lv_sub hl [0, 1] rfl) U
      · refine lv_aload_n hx hb kd_Rd_endPiece_10 rfl (lv_at hl 1 rfl) ?_
        refine kg_Rd_33 X U 0 rfl rfl kd_Rd_endPiece_11 ?_
        refine lv_aload_n hx hb kd_Rd_endPiece_14 rfl (lv_at hl 1 rfl) ?_
        refine kg_Rd_30 X U 0 rfl rfl kd_Rd_endPiece_15 ?_
        refine kz_icge X (by first | omega | (have := hsrc at1; have := hno lv (Nat.le_refl _); omega)) (by first | omega | (have := hsrc at1; have := hno lv (Nat.le_refl _); omega)) kd_Rd_endPiece_18 rfl (fun h18 => ?_) (fun h18 => ?_)
        · have hend : rd_ms src len len at_ P = (true, at1, P1) := by
            rw [hms]
            rcases Nat.eq_zero_or_pos (len - j) with z | z
            · rw [z]; rfl
            · rw [show len - j = (len - j - 1) + 1 by omega]; exact if_neg (fun y => by first | omega | (have := y.2; rw [h33] at this; cases this))
          refine kz_ic X 0 kd_Rd_endPiece_51 (by decide) ?_
          refine lv_istore_n hx hb kd_Rd_endPiece_52 rfl hl (by decide) rfl (fun ls hl => ?_)
          have hl : lv_has ls 2 [(1, .int (nI 0)), (0, .ref rd)] := hl
          have loop53 : ∀ (fuel : Nat) (k : Nat) (e1 : Nat → Int32) (e2 : Nat → Int32) (e3 : Nat → Int32) (ls : Array Slot) (H : Heap) (locs : List Loc), no lv + 1 - k < fuel → (k ≤ no lv) → (kz_pg (rd_nt k P1) e1 e2 e3) → lv_has ls 2 [(1, .int (nI k)), (0, .ref rd)] → kz_U D q s A [(rd, .inr (4, [.ref an, .ref au, .ref ai, .int (nI lv), .ref as_, .int (nI len), .int (nI at1), .ref hg])), (an, .inl (q 0, 41, .inl (fun x_ => nI (no x_)))), (au, .inl (q 2, 41, .inl (fun x_ => nB (uo x_)))), (ai, .inl (q 2, 41, .inl (fun x_ => nB (io x_)))), (as_, .inl (q 1, 40, .inl (fun x_ => nI (src x_)))), (hg, .inr (3, [.ref ak, .ref al, .ref ah, .int (nI ((rd_nt k P1).length))])), (ak, .inl (q 0, 81, .inl e1)), (al, .inl (q 0, 81, .inl e2)), (ah, .inl (q 0, 81, .inl e3))] H locs → W p l e (kz_rm 3) s m args below meth c H locs 0 0 Q (F0 m 53 ls []) := by
            intro fuel
            induction fuel with
            | zero => intro k e1 e2 e3 ls H locs hme; exact absurd hme (Nat.not_lt_zero _)
            | succ fuel ih53 =>
              intro k e1 e2 e3 ls H locs hme hk hPk hl U
              refine lv_iload_n hx hb kd_Rd_endPiece_53 rfl (lv_at hl 0 rfl) ?_
              refine lv_aload_n hx hb kd_Rd_endPiece_54 rfl (lv_at hl 1 rfl) ?_
              refine kg_Rd_9 X U 0 rfl rfl kd_Rd_endPiece_55 ?_
              refine lv_aload_n hx hb kd_Rd_endPiece_58 rfl (lv_at hl 1 rfl) ?_
              refine kg_Rd_22 X U 0 rfl rfl kd_Rd_endPiece_59 ?_
              refine kz_iald (k := lv) X U 1 rfl (by omega) (by omega) kd_Rd_endPiece_62 ?_
              refine kz_top (y := nI (no lv)) rfl ?_
              refine kz_icge X (by first | omega | (have := hsrc at1; have := hno lv (Nat.le_refl _); omega)) (by first | omega | (have := hsrc at1; have := hno lv (Nat.le_refl _); omega)) kd_Rd_endPiece_63 rfl (fun h63 => ?_) (fun h63 => ?_)
              · obtain rfl : no lv = k := by omega
                refine lv_aload_n hx hb kd_Rd_endPiece_82 rfl (lv_at hl 1 rfl) ?_
                refine kg_Rd_9 X U 0 rfl rfl kd_Rd_endPiece_83 ?_
                refine lv_aload_n hx hb kd_Rd_endPiece_86 rfl (lv_at hl 1 rfl) ?_
                refine kg_Rd_22 X U 0 rfl rfl kd_Rd_endPiece_87 ?_
                refine kz_ic X 0 kd_Rd_endPiece_90 (by decide) ?_
                refine kz_iast (k := lv) X U 1 rfl (by omega) (by omega) kd_Rd_endPiece_91 (fun H locs U => ?_)
                rw [kz_updN] at U
                have U : kz_U D q s A [(rd, .inr (4, [.ref an, .ref au, .ref ai, .int (nI lv), .ref as_, .int (nI len), .int (nI at1), .ref hg])), (an, .inl (q 0, 41, .inl (fun x_ => nI ((va_up no lv 0) x_)))), (au, .inl (q 2, 41, .inl (fun x_ => nB (uo x_)))), (ai, .inl (q 2, 41, .inl (fun x_ => nB (io x_)))), (as_, .inl (q 1, 40, .inl (fun x_ => nI (src x_)))), (hg, .inr (3, [.ref ak, .ref al, .ref ah, .int (nI ((rd_nt (no lv) P1).length))])), (ak, .inl (q 0, 81, .inl e1)), (al, .inl (q 0, 81, .inl e2)), (ah, .inl (q 0, 81, .inl e3))] H locs := U
                refine lv_aload_n hx hb kd_Rd_endPiece_92 rfl (lv_at hl 1 rfl) ?_
                refine kg_Rd_39 X U 0 rfl rfl kd_Rd_endPiece_93 ?_
                refine kz_ic X 2 kd_Rd_endPiece_96 (by decide) ?_
                refine kz_ic X 0 kd_Rd_endPiece_97 (by decide) ?_
                refine kz_ic X 0 kd_Rd_endPiece_98 (by decide) ?_
                refine kz_cVv (av := [.int (nI 2), .int (nI 0), .int (nI 0)]) (rest := []) (wr := [(rd, .inr (4, [.ref an, .ref au, .ref ai, .int (nI lv), .ref as_, .int (nI len), .int (nI at1), .ref hg])), (an, .inl (q 0, 41, .inl (fun x_ => nI ((va_up no lv 0) x_)))), (au, .inl (q 2, 41, .inl (fun x_ => nB (uo x_)))), (ai, .inl (q 2, 41, .inl (fun x_ => nB (io x_)))), (as_, .inl (q 1, 40, .inl (fun x_ => nI (src x_))))]) X U hl.1 (cm_Pg_addP l D q hg ak al ah 2 0 1 (nI 0) (rd_nt (no lv) P1) e1 e2 e3 (pk_m1 0).symm hPk) (by decide) (by decide) ⟨by decide, by decide⟩ tb_250 tb_123 tb_124 5 rfl rfl tb_8 tb_125 kq_Pg_add [5, 6, 7, 8] [0, 1, 2, 3, 4] (by decide) rfl rfl (by decide) (by decide) rfl (Nat.le_of_ble_eq_true rfl) kd_Rd_endPiece_99 (fun x H locs hxx U => ?_)
                have U : kz_U D q s A [(rd, .inr (4, [.ref an, .ref au, .ref ai, .int (nI lv), .ref as_, .int (nI len), .int (nI at1), .ref hg])), (an, .inl (q 0, 41, .inl (fun x_ => nI ((va_up no lv 0) x_)))), (au, .inl (q 2, 41, .inl (fun x_ => nB (uo x_)))), (ai, .inl (q 2, 41, .inl (fun x_ => nB (io x_)))), (as_, .inl (q 1, 40, .inl (fun x_ => nI (src x_)))), (hg, .inr (3, [.ref ak, .ref al, .ref ah, .int (nI ((pg_add (rd_nt (no lv) P1) (2, 0, 1)).length))])), (ak, .inl (q 0, 81, .inl x.1)), (al, .inl (q 0, 81, .inl x.2.1)), (ah, .inl (q 0, 81, .inl x.2.2))] H locs := U
                refine kz_ic X 1 kd_Rd_endPiece_102 (by decide) ?_
                refine kz_top (y := nB true) rfl ?_
                exact kz_ez hQ hA X U (((at1, lv, va_up no lv 0, uo, io, pg_add (rd_nt (no lv) P1) (2, 0, 1)), x)) rfl (by rw [rd_ep_t hend]; exact ⟨rfl, rfl, hxx⟩) kd_Rd_endPiece_103
              · refine lv_aload_n hx hb kd_Rd_endPiece_66 rfl (lv_at hl 1 rfl) ?_
                refine kg_Rd_39 X U 0 rfl rfl kd_Rd_endPiece_67 ?_
                refine kz_ic X 5 kd_Rd_endPiece_70 (by decide) ?_
                refine kz_ic X 0 kd_Rd_endPiece_71 (by decide) ?_
                refine kz_ic X 0 kd_Rd_endPiece_72 (by decide) ?_
                refine kz_cVv (av := [.int (nI 5), .int (nI 0), .int (nI 0)]) (rest := []) (wr := [(rd, .inr (4, [.ref an, .ref au, .ref ai, .int (nI lv), .ref as_, .int (nI len), .int (nI at1), .ref hg])), (an, .inl (q 0, 41, .inl (fun x_ => nI (no x_)))), (au, .inl (q 2, 41, .inl (fun x_ => nB (uo x_)))), (ai, .inl (q 2, 41, .inl (fun x_ => nB (io x_)))), (as_, .inl (q 1, 40, .inl (fun x_ => nI (src x_))))]) X U hl.1 (cm_Pg_addP l D q hg ak al ah 5 0 1 (nI 0) (rd_nt k P1) e1 e2 e3 (pk_m1 0).symm hPk) (by decide) (by decide) ⟨by decide, by decide⟩ tb_250 tb_123 tb_124 5 rfl rfl tb_8 tb_125 kq_Pg_add [5, 6, 7, 8] [0, 1, 2, 3, 4] (by decide) rfl rfl (by decide) (by decide) rfl (Nat.le_of_ble_eq_true rfl) kd_Rd_endPiece_73 (fun y H locs hy U => ?_)
                have U : kz_U D q s A [(rd, .inr (4, [.ref an, .ref au, .ref ai, .int (nI lv), .ref as_, .int (nI len), .int (nI at1), .ref hg])), (an, .inl (q 0, 41, .inl (fun x_ => nI (no x_)))), (au, .inl (q 2, 41, .inl (fun x_ => nB (uo x_)))), (ai, .inl (q 2, 41, .inl (fun x_ => nB (io x_)))), (as_, .inl (q 1, 40, .inl (fun x_ => nI (src x_)))), (hg, .inr (3, [.ref ak, .ref al, .ref ah, .int (nI ((pg_add (rd_nt k P1) (5, 0, 1)).length))])), (ak, .inl (q 0, 81, .inl y.1)), (al, .inl (q 0, 81, .inl y.2.1)), (ah, .inl (q 0, 81, .inl y.2.2))] H locs := U
                refine lv_iinc (k := 0) (v := nI (k + 1)) hx hb kd_Rd_endPiece_76 hl rfl (nI_add k 1) (by decide) rfl (fun ls hl => ?_)
                have hl : lv_has ls 2 [(1, .int (nI (k + 1))), (0, .ref rd)] := hl
                refine lv_goto hx hb kd_Rd_endPiece_79 rfl ?_
                exact ih53 (k + 1) _ _ _ _ _ _ (by omega) (by omega) hy (lv_sub hl [0, 1] rfl) U
          exact loop53 _ 0 g1 g2 g3 _ _ _ (Nat.lt_succ_self _) (by omega) hP1 (lv_sub hl [0, 1] rfl) U
        · refine lv_aload_n hx hb kd_Rd_endPiece_21 rfl (lv_at hl 1 rfl) ?_
          refine kg_Rd_26 X U 0 rfl rfl kd_Rd_endPiece_22 ?_
          refine lv_aload_n hx hb kd_Rd_endPiece_25 rfl (lv_at hl 1 rfl) ?_
          refine kg_Rd_33 X U 0 rfl rfl kd_Rd_endPiece_26 ?_
          refine kz_cald (k := at1) X U 4 rfl (by omega) (by omega) kd_Rd_endPiece_29 ?_
          refine kz_top (y := nI (src at1)) rfl ?_
          refine kz_cSi (av := [.int (nI (src at1))]) (rest := []) (wr := [(rd, .inr (4, [.ref an, .ref au, .ref ai, .int (nI lv), .ref as_, .int (nI len), .int (nI at1), .ref hg])), (an, .inl (q 0, 41, .inl (fun x_ => nI (no x_)))), (au, .inl (q 2, 41, .inl (fun x_ => nB (uo x_)))), (ai, .inl (q 2, 41, .inl (fun x_ => nB (io x_)))), (as_, .inl (q 1, 40, .inl (fun x_ => nI (src x_)))), (hg, .inr (3, [.ref ak, .ref al, .ref ah, .int (nI P1.length)])), (ak, .inl (q 0, 81, .inl g1)), (al, .inl (q 0, 81, .inl g2)), (ah, .inl (q 0, 81, .inl g3))]) X U hl.1 (cm_Rd_isMark l D q (src at1) (hsrc at1)) (by decide) (by decide) ⟨by decide, by decide⟩ tb_283 tb_284 tb_9 tb_285 kq_Rd_isMark [] [0, 1, 2, 3, 4, 5, 6, 7, 8] (by decide) rfl rfl (by decide) (by decide) rfl (Nat.le_of_ble_eq_true rfl) kd_Rd_endPiece_30 (fun rv _ H locs hp U => ?_)
          subst hp
          have U : kz_U D q s A [(rd, .inr (4, [.ref an, .ref au, .ref ai, .int (nI lv), .ref as_, .int (nI len), .int (nI at1), .ref hg])), (an, .inl (q 0, 41, .inl (fun x_ => nI (no x_)))), (au, .inl (q 2, 41, .inl (fun x_ => nB (uo x_)))), (ai, .inl (q 2, 41, .inl (fun x_ => nB (io x_)))), (as_, .inl (q 1, 40, .inl (fun x_ => nI (src x_)))), (hg, .inr (3, [.ref ak, .ref al, .ref ah, .int (nI P1.length)])), (ak, .inl (q 0, 81, .inl g1)), (al, .inl (q 0, 81, .inl g2)), (ah, .inl (q 0, 81, .inl g3))] H locs := U
          refine kz_ifeqB X kd_Rd_endPiece_33 rfl (fun h33 => ?_) (fun h33 => ?_)
          · have hend : rd_ms src len len at_ P = (true, at1, P1) := by
              rw [hms]
              rcases Nat.eq_zero_or_pos (len - j) with z | z
              · rw [z]; rfl
              · rw [show len - j = (len - j - 1) + 1 by omega]; exact if_neg (fun y => by first | omega | (have := y.2; rw [h33] at this; cases this))
            refine kz_ic X 0 kd_Rd_endPiece_51 (by decide) ?_
            refine lv_istore_n hx hb kd_Rd_endPiece_52 rfl hl (by decide) rfl (fun ls hl => ?_)
            have hl : lv_has ls 2 [(1, .int (nI 0)), (0, .ref rd)] := hl
            have loop53 : ∀ (fuel : Nat) (k : Nat) (e1 : Nat → Int32) (e2 : Nat → Int32) (e3 : Nat → Int32) (ls : Array Slot) (H : Heap) (locs : List Loc), no lv + 1 - k < fuel → (k ≤ no lv) → (kz_pg (rd_nt k P1) e1 e2 e3) → lv_has ls 2 [(1, .int (nI k)), (0, .ref rd)] → kz_U D q s A [(rd, .inr (4, [.ref an, .ref au, .ref ai, .int (nI lv), .ref as_, .int (nI len), .int (nI at1), .ref hg])), (an, .inl (q 0, 41, .inl (fun x_ => nI (no x_)))), (au, .inl (q 2, 41, .inl (fun x_ => nB (uo x_)))), (ai, .inl (q 2, 41, .inl (fun x_ => nB (io x_)))), (as_, .inl (q 1, 40, .inl (fun x_ => nI (src x_)))), (hg, .inr (3, [.ref ak, .ref al, .ref ah, .int (nI ((rd_nt k P1).length))])), (ak, .inl (q 0, 81, .inl e1)), (al, .inl (q 0, 81, .inl e2)), (ah, .inl (q 0, 81, .inl e3))] H locs → W p l e (kz_rm 3) s m args below meth c H locs 0 0 Q (F0 m 53 ls []) := by
              intro fuel
              induction fuel with
              | zero => intro k e1 e2 e3 ls H locs hme; exact absurd hme (Nat.not_lt_zero _)
              | succ fuel ih53 =>
                intro k e1 e2 e3 ls H locs hme hk hPk hl U
                refine lv_iload_n hx hb kd_Rd_endPiece_53 rfl (lv_at hl 0 rfl) ?_
                refine lv_aload_n hx hb kd_Rd_endPiece_54 rfl (lv_at hl 1 rfl) ?_
                refine kg_Rd_9 X U 0 rfl rfl kd_Rd_endPiece_55 ?_
                refine lv_aload_n hx hb kd_Rd_endPiece_58 rfl (lv_at hl 1 rfl) ?_
                refine kg_Rd_22 X U 0 rfl rfl kd_Rd_endPiece_59 ?_
                refine kz_iald (k := lv) X U 1 rfl (by omega) (by omega) kd_Rd_endPiece_62 ?_
                refine kz_top (y := nI (no lv)) rfl ?_
                refine kz_icge X (by first | omega | (have := hsrc at1; have := hno lv (Nat.le_refl _); omega)) (by first | omega | (have := hsrc at1; have := hno lv (Nat.le_refl _); omega)) kd_Rd_endPiece_63 rfl (fun h63 => ?_) (fun h63 => ?_)
                · obtain rfl : no lv = k := by omega
                  refine lv_aload_n hx hb kd_Rd_endPiece_82 rfl (lv_at hl 1 rfl) ?_
                  refine kg_Rd_9 X U 0 rfl rfl kd_Rd_endPiece_83 ?_
                  refine lv_aload_n hx hb kd_Rd_endPiece_86 rfl (lv_at hl 1 rfl) ?_
                  refine kg_Rd_22 X U 0 rfl rfl kd_Rd_endPiece_87 ?_
                  refine kz_ic X 0 kd_Rd_endPiece_90 (by decide) ?_
                  refine kz_iast (k := lv) X U 1 rfl (by omega) (by omega) kd_Rd_endPiece_91 (fun H locs U => ?_)
                  rw [kz_updN] at U
                  have U : kz_U D q s A [(rd, .inr (4, [.ref an, .ref au, .ref ai, .int (nI lv), .ref as_, .int (nI len), .int (nI at1), .ref hg])), (an, .inl (q 0, 41, .inl (fun x_ => nI ((va_up no lv 0) x_)))), (au, .inl (q 2, 41, .inl (fun x_ => nB (uo x_)))), (ai, .inl (q 2, 41, .inl (fun x_ => nB (io x_)))), (as_, .inl (q 1, 40, .inl (fun x_ => nI (src x_)))), (hg, .inr (3, [.ref ak, .ref al, .ref ah, .int (nI ((rd_nt (no lv) P1).length))])), (ak, .inl (q 0, 81, .inl e1)), (al, .inl (q 0, 81, .inl e2)), (ah, .inl (q 0, 81, .inl e3))] H locs := U
                  refine lv_aload_n hx hb kd_Rd_endPiece_92 rfl (lv_at hl 1 rfl) ?_
                  refine kg_Rd_39 X U 0 rfl rfl kd_Rd_endPiece_93 ?_
                  refine kz_ic X 2 kd_Rd_endPiece_96 (by decide) ?_
                  refine kz_ic X 0 kd_Rd_endPiece_97 (by decide) ?_
                  refine kz_ic X 0 kd_Rd_endPiece_98 (by decide) ?_
                  refine kz_cVv (av := [.int (nI 2), .int (nI 0), .int (nI 0)]) (rest := []) (wr := [(rd, .inr (4, [.ref an, .ref au, .ref ai, .int (nI lv), .ref as_, .int (nI len), .int (nI at1), .ref hg])), (an, .inl (q 0, 41, .inl (fun x_ => nI ((va_up no lv 0) x_)))), (au, .inl (q 2, 41, .inl (fun x_ => nB (uo x_)))), (ai, .inl (q 2, 41, .inl (fun x_ => nB (io x_)))), (as_, .inl (q 1, 40, .inl (fun x_ => nI (src x_))))]) X U hl.1 (cm_Pg_addP l D q hg ak al ah 2 0 1 (nI 0) (rd_nt (no lv) P1) e1 e2 e3 (pk_m1 0).symm hPk) (by decide) (by decide) ⟨by decide, by decide⟩ tb_250 tb_123 tb_124 5 rfl rfl tb_8 tb_125 kq_Pg_add [5, 6, 7, 8] [0, 1, 2, 3, 4] (by decide) rfl rfl (by decide) (by decide) rfl (Nat.le_of_ble_eq_true rfl) kd_Rd_endPiece_99 (fun x H locs hxx U => ?_)
                  have U : kz_U D q s A [(rd, .inr (4, [.ref an, .ref au, .ref ai, .int (nI lv), .ref as_, .int (nI len), .int (nI at1), .ref hg])), (an, .inl (q 0, 41, .inl (fun x_ => nI ((va_up no lv 0) x_)))), (au, .inl (q 2, 41, .inl (fun x_ => nB (uo x_)))), (ai, .inl (q 2, 41, .inl (fun x_ => nB (io x_)))), (as_, .inl (q 1, 40, .inl (fun x_ => nI (src x_)))), (hg, .inr (3, [.ref ak, .ref al, .ref ah, .int (nI ((pg_add (rd_nt (no lv) P1) (2, 0, 1)).length))])), (ak, .inl (q 0, 81, .inl x.1)), (al, .inl (q 0, 81, .inl x.2.1)), (ah, .inl (q 0, 81, .inl x.2.2))] H locs := U
                  refine kz_ic X 1 kd_Rd_endPiece_102 (by decide) ?_
                  refine kz_top (y := nB true) rfl ?_
                  exact kz_ez hQ hA X U (((at1, lv, va_up no lv 0, uo, io, pg_add (rd_nt (no lv) P1) (2, 0, 1)), x)) rfl (by rw [rd_ep_t hend]; exact ⟨rfl, rfl, hxx⟩) kd_Rd_endPiece_103
                · refine lv_aload_n hx hb kd_Rd_endPiece_66 rfl (lv_at hl 1 rfl) ?_
                  refine kg_Rd_39 X U 0 rfl rfl kd_Rd_endPiece_67 ?_
                  refine kz_ic X 5 kd_Rd_endPiece_70 (by decide) ?_
                  refine kz_ic X 0 kd_Rd_endPiece_71 (by decide) ?_
                  refine kz_ic X 0 kd_Rd_endPiece_72 (by decide) ?_
                  refine kz_cVv (av := [.int (nI 5), .int (nI 0), .int (nI 0)]) (rest := []) (wr := [(rd, .inr (4, [.ref an, .ref au, .ref ai, .int (nI lv), .ref as_, .int (nI len), .int (nI at1), .ref hg])), (an, .inl (q 0, 41, .inl (fun x_ => nI (no x_)))), (au, .inl (q 2, 41, .inl (fun x_ => nB (uo x_)))), (ai, .inl (q 2, 41, .inl (fun x_ => nB (io x_)))), (as_, .inl (q 1, 40, .inl (fun x_ => nI (src x_))))]) X U hl.1 (cm_Pg_addP l D q hg ak al ah 5 0 1 (nI 0) (rd_nt k P1) e1 e2 e3 (pk_m1 0).symm hPk) (by decide) (by decide) ⟨by decide, by decide⟩ tb_250 tb_123 tb_124 5 rfl rfl tb_8 tb_125 kq_Pg_add [5, 6, 7, 8] [0, 1, 2, 3, 4] (by decide) rfl rfl (by decide) (by decide) rfl (Nat.le_of_ble_eq_true rfl) kd_Rd_endPiece_73 (fun y H locs hy U => ?_)
                  have U : kz_U D q s A [(rd, .inr (4, [.ref an, .ref au, .ref ai, .int (nI lv), .ref as_, .int (nI len), .int (nI at1), .ref hg])), (an, .inl (q 0, 41, .inl (fun x_ => nI (no x_)))), (au, .inl (q 2, 41, .inl (fun x_ => nB (uo x_)))), (ai, .inl (q 2, 41, .inl (fun x_ => nB (io x_)))), (as_, .inl (q 1, 40, .inl (fun x_ => nI (src x_)))), (hg, .inr (3, [.ref ak, .ref al, .ref ah, .int (nI ((pg_add (rd_nt k P1) (5, 0, 1)).length))])), (ak, .inl (q 0, 81, .inl y.1)), (al, .inl (q 0, 81, .inl y.2.1)), (ah, .inl (q 0, 81, .inl y.2.2))] H locs := U
                  refine lv_iinc (k := 0) (v := nI (k + 1)) hx hb kd_Rd_endPiece_76 hl rfl (nI_add k 1) (by decide) rfl (fun ls hl => ?_)
                  have hl : lv_has ls 2 [(1, .int (nI (k + 1))), (0, .ref rd)] := hl
                  refine lv_goto hx hb kd_Rd_endPiece_79 rfl ?_
                  exact ih53 (k + 1) _ _ _ _ _ _ (by omega) (by omega) hy (lv_sub hl [0, 1] rfl) U
            exact loop53 _ 0 g1 g2 g3 _ _ _ (Nat.lt_succ_self _) (by omega) hP1 (lv_sub hl [0, 1] rfl) U
          · refine lv_aload_n hx hb kd_Rd_endPiece_36 rfl (lv_at hl 1 rfl) ?_
            refine kz_cVi (av := []) (rest := []) (wr := [(an, .inl (q 0, 41, .inl (fun x_ => nI (no x_)))), (au, .inl (q 2, 41, .inl (fun x_ => nB (uo x_)))), (ai, .inl (q 2, 41, .inl (fun x_ => nB (io x_))))]) X U hl.1 (cm_Rd_readMark l D q rd an au ai as_ hg ak al ah at1 lv len src P1 g1 g2 g3 hlen hat1 hsrc hP1 h18) (by decide) (by decide) ⟨by decide, by decide⟩ tb_286 tb_288 tb_s10 0 rfl rfl tb_9 tb_289 kq_Rd_readMark [0, 4, 5, 6, 7, 8] [1, 2, 3] (by decide) rfl rfl (by decide) (by decide) rfl (Nat.le_of_ble_eq_true rfl) kd_Rd_endPiece_37 (fun rv v H locs hv U => ?_)
            obtain ⟨hv1, hv2, hv3⟩ := hv
            subst hv1
            have U : kz_U D q s A [(rd, .inr (4, [.ref an, .ref au, .ref ai, .int (nI lv), .ref as_, .int (nI len), .int (nI v.1.1), .ref hg])), (an, .inl (q 0, 41, .inl (fun x_ => nI (no x_)))), (au, .inl (q 2, 41, .inl (fun x_ => nB (uo x_)))), (ai, .inl (q 2, 41, .inl (fun x_ => nB (io x_)))), (as_, .inl (q 1, 40, .inl (fun x_ => nI (src x_)))), (hg, .inr (3, [.ref ak, .ref al, .ref ah, .int (nI v.1.2.length)])), (ak, .inl (q 0, 81, .inl v.2.1)), (al, .inl (q 0, 81, .inl v.2.2.1)), (ah, .inl (q 0, 81, .inl v.2.2.2))] H locs := U.sub [3, 0, 1, 2, 4, 5, 6, 7, 8] (by decide) rfl
            refine kz_ifneB X kd_Rd_endPiece_40 rfl (fun h40 => ?_) (fun h40 => ?_)
            · refine lv_iinc (k := 0) (v := nI (j + 1)) hx hb kd_Rd_endPiece_45 hl rfl (nI_add j 1) (by decide) rfl (fun ls hl => ?_)
              have hl : lv_has ls 2 [(1, .int (nI (j + 1))), (0, .ref rd)] := hl
              refine lv_goto hx hb kd_Rd_endPiece_48 rfl ?_
              exact ih2 (j + 1) _ _ _ _ _ _ _ _ (by omega) (by omega) (by rw [hv2]; exact (rd_mr_le h18).1) hv3 (by rw [hms, show len - j = (len - (j + 1)) + 1 by omega, hv2]; exact (if_pos ⟨h18, h33⟩).trans (if_pos h40)) (lv_sub hl [0, 1] rfl) U
            · refine kz_ic X 0 kd_Rd_endPiece_43 (by decide) ?_
              refine kz_top (y := nB false) rfl ?_
              exact kz_ez hQ hA X U (((v.1.1, lv, no, uo, io, v.1.2), v.2)) rfl (by rw [rd_ep_f (m := rd_mr src len at1 P1) (by rw [hms, show len - j = (len - j - 1) + 1 by omega]; exact (if_pos ⟨h18, h33⟩).trans (if_neg (by rw [h40]; decide))) h40, ← hv2]; exact ⟨rfl, rfl, hv3⟩) kd_Rd_endPiece_44
  exact loop2 _ 0 at_ P fk fl fh _ _ _ (Nat.lt_succ_self _) (by omega) hat hP rfl (lv_sub hl [0, 1] rfl) U
