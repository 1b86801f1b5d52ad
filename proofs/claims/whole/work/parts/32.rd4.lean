set_option maxHeartbeats 4000000 in
set_option maxRecDepth 100000 in
theorem cm_Rd_readClass (l : Launch) (D : va_G) (q : Nat → ClassId) (rd an au ai as_ hg ak al ah : Nat) (at_ lv len : Nat) (src : Nat → Nat) (P : List (Nat × Nat × Nat)) (fk fl fh : Nat → Int32) (hlen : len ≤ 40) (hat : at_ ≤ len) (hsrc : ∀ j, src j < 65536) (hP : kz_pg P fk fl fh) (hatl : at_ < len) : kz_Mi (S := (Nat × List (Nat × Nat × Nat)) × ((Nat → Int32) × (Nat → Int32) × (Nat → Int32))) l ky_Rd_readClass kb_Rd_readClass 3 (some .boolean) 2 D q [.ref rd] [(rd, .inr (4, [.ref an, .ref au, .ref ai, .int (nI lv), .ref as_, .int (nI len), .int (nI at_), .ref hg])), (as_, .inl (q 1, 40, .inl (fun x_ => nI (src x_)))), (hg, .inr (3, [.ref ak, .ref al, .ref ah, .int (nI P.length)])), (ak, .inl (q 0, 81, .inl fk)), (al, .inl (q 0, 81, .inl fl)), (ah, .inl (q 0, 81, .inl fh))] (fun r u => r = nB (rd_cx src len at_ P).1 ∧ u.1 = (rd_cx src len at_ P).2 ∧ kz_pg u.1.2 u.2.1 u.2.2.1 u.2.2.2) (fun u => [(rd, .inr (4, [.ref an, .ref au, .ref ai, .int (nI lv), .ref as_, .int (nI len), .int (nI u.1.1), .ref hg])), (as_, .inl (q 1, 40, .inl (fun x_ => nI (src x_)))), (hg, .inr (3, [.ref ak, .ref al, .ref ah, .int (nI u.1.2.length)])), (ak, .inl (q 0, 81, .inl u.2.1)), (al, .inl (q 0, 81, .inl u.2.2.1)), (ah, .inl (q 0, 81, .inl u.2.2.2))]) := by
  intro sz_
  refine kz_go (by decide +kernel) (Nat.le_of_ble_eq_true rfl) ?_
  intro p e s m below meth c ls args A Q H locs hQ hA X U hl
  have hx := X.1
  have hb := X.2.1
  have hl : lv_has ls 3 [(0, .ref rd)] := hl
  refine lv_aload_n hx hb kd_Rd_readClass_0 rfl (lv_at hl 0 rfl) ?_
  refine lv_dup hx hb kd_Rd_readClass_1 rfl ?_
  refine kg_Rd_33 X U 0 rfl rfl kd_Rd_readClass_2 ?_
  refine kz_ic X 1 kd_Rd_readClass_5 (by decide) ?_
  refine kz_iadd X kd_Rd_readClass_6 ?_
  refine kz_top (y := nI (at_ + 1)) rfl ?_
  refine kp_Rd_33 X U 0 rfl (Nat.le_of_ble_eq_true rfl) kd_Rd_readClass_7 (fun H locs U => ?_)
  have U : kz_U D q s A [(rd, .inr (4, [.ref an, .ref au, .ref ai, .int (nI lv), .ref as_, .int (nI len), .int (nI (at_ + 1)), .ref hg])), (as_, .inl (q 1, 40, .inl (fun x_ => nI (src x_)))), (hg, .inr (3, [.ref ak, .ref al, .ref ah, .int (nI P.length)])), (ak, .inl (q 0, 81, .inl fk)), (al, .inl (q 0, 81, .inl fl)), (ah, .inl (q 0, 81, .inl fh))] H locs := U
  refine lv_aload_n hx hb kd_Rd_readClass_10 rfl (lv_at hl 0 rfl) ?_
  refine kz_bp X 94 kd_Rd_readClass_11 (by decide) ?_
  refine kz_cVi (av := [.int (nI 94)]) (rest := []) (wr := [(hg, .inr (3, [.ref ak, .ref al, .ref ah, .int (nI P.length)])), (ak, .inl (q 0, 81, .inl fk)), (al, .inl (q 0, 81, .inl fl)), (ah, .inl (q 0, 81, .inl fh))]) X U hl.1 (cm_Rd_isNext l D q rd an au ai as_ hg (at_ + 1) lv len 94 src hlen hsrc (by omega) (by omega)) (by decide) (by decide) ⟨by decide, by decide⟩ tb_298 tb_300 tb_s13 0 rfl rfl tb_9 tb_301 kq_Rd_isNext [0, 1] [2, 3, 4, 5] (by decide) rfl rfl (by decide) (by decide) rfl (Nat.le_of_ble_eq_true rfl) kd_Rd_readClass_13 (fun rv _ H locs hp U => ?_)
  subst hp
  have U : kz_U D q s A [(rd, .inr (4, [.ref an, .ref au, .ref ai, .int (nI lv), .ref as_, .int (nI len), .int (nI (at_ + 1)), .ref hg])), (as_, .inl (q 1, 40, .inl (fun x_ => nI (src x_)))), (hg, .inr (3, [.ref ak, .ref al, .ref ah, .int (nI P.length)])), (ak, .inl (q 0, 81, .inl fk)), (al, .inl (q 0, 81, .inl fl)), (ah, .inl (q 0, 81, .inl fh))] H locs := U.sub [4, 5, 0, 1, 2, 3] (by decide) rfl
  refine lv_istore_n hx hb kd_Rd_readClass_16 rfl hl (by decide) rfl (fun ls hl => ?_)
  have hl : lv_has ls 3 [(1, .int (nB (decide (at_ + 1 < len ∧ src (at_ + 1) = 94)))), (0, .ref rd)] := hl
  refine lv_iload_n hx hb kd_Rd_readClass_17 rfl (lv_at hl 0 rfl) ?_
  refine kz_ifeqB X kd_Rd_readClass_18 rfl (fun h18 => ?_) (fun h18 => ?_)
  · have hcx : rd_cx src len at_ P = rd_c1 src len false (at_ + 1) P := if_neg (of_decide_eq_false h18)
    refine lv_aload_n hx hb kd_Rd_readClass_31 rfl (lv_at hl 1 rfl) ?_
    refine kz_bp X 93 kd_Rd_readClass_32 (by decide) ?_
    refine kz_cVi (av := [.int (nI 93)]) (rest := []) (wr := [(hg, .inr (3, [.ref ak, .ref al, .ref ah, .int (nI P.length)])), (ak, .inl (q 0, 81, .inl fk)), (al, .inl (q 0, 81, .inl fl)), (ah, .inl (q 0, 81, .inl fh))]) X U hl.1 (cm_Rd_isNext l D q rd an au ai as_ hg (at_ + 1) lv len 93 src hlen hsrc (by omega) (by omega)) (by decide) (by decide) ⟨by decide, by decide⟩ tb_298 tb_300 tb_s13 0 rfl rfl tb_9 tb_301 kq_Rd_isNext [0, 1] [2, 3, 4, 5] (by decide) rfl rfl (by decide) (by decide) rfl (Nat.le_of_ble_eq_true rfl) kd_Rd_readClass_34 (fun rv _ H locs hp U => ?_)
    subst hp
    have U : kz_U D q s A [(rd, .inr (4, [.ref an, .ref au, .ref ai, .int (nI lv), .ref as_, .int (nI len), .int (nI (at_ + 1)), .ref hg])), (as_, .inl (q 1, 40, .inl (fun x_ => nI (src x_)))), (hg, .inr (3, [.ref ak, .ref al, .ref ah, .int (nI P.length)])), (ak, .inl (q 0, 81, .inl fk)), (al, .inl (q 0, 81, .inl fl)), (ah, .inl (q 0, 81, .inl fh))] H locs := U.sub [4, 5, 0, 1, 2, 3] (by decide) rfl
    refine kz_ifneB X kd_Rd_readClass_37 rfl (fun h37 => ?_) (fun h37 => ?_)
    · refine kz_ic X 0 kd_Rd_readClass_47 (by decide) ?_
      refine kz_top (y := nB false) rfl ?_
      exact kz_ez hQ hA X U (((at_ + 1, P), (fk, fl, fh))) rfl (by rw [hcx, show rd_c1 src len false (at_ + 1) P = (false, at_ + 1, P) from if_pos (of_decide_eq_true h37)]; exact ⟨rfl, rfl, hP⟩) kd_Rd_readClass_48
    · refine lv_aload_n hx hb kd_Rd_readClass_40 rfl (lv_at hl 1 rfl) ?_
      refine kz_cVi (av := []) (rest := []) (wr := []) X U hl.1 (cm_Rd_readItem l D q rd an au ai as_ hg ak al ah (at_ + 1) lv len src P fk fl fh hlen (by omega) hsrc hP) (by decide) (by decide) ⟨by decide, by decide⟩ tb_306 tb_308 tb_s15 0 rfl rfl tb_9 tb_309 kq_Rd_readItem [0, 1, 2, 3, 4, 5] [] (by decide) rfl rfl (by decide) (by decide) rfl (Nat.le_of_ble_eq_true rfl) kd_Rd_readClass_41 (fun rv v H locs hv U => ?_)
      obtain ⟨hv1, hv2, hv3⟩ := hv
      subst hv1
      have U : kz_U D q s A [(rd, .inr (4, [.ref an, .ref au, .ref ai, .int (nI lv), .ref as_, .int (nI len), .int (nI v.1.1), .ref hg])), (as_, .inl (q 1, 40, .inl (fun x_ => nI (src x_)))), (hg, .inr (3, [.ref ak, .ref al, .ref ah, .int (nI v.1.2.length)])), (ak, .inl (q 0, 81, .inl v.2.1)), (al, .inl (q 0, 81, .inl v.2.2.1)), (ah, .inl (q 0, 81, .inl v.2.2.2))] H locs := U
      refine kz_ifneB X kd_Rd_readClass_44 rfl (fun h44 => ?_) (fun h44 => ?_)
      · have hc2 : rd_cx src len at_ P = rd_c3 src len false (rd_is src len len v.1.1 v.1.2) := hcx.trans ((if_neg (of_decide_eq_false h37)).trans (by unfold rd_c2; rw [if_pos h44, ← hv2]))
        have hv1l : v.1.1 ≤ len := by rw [hv2]; exact (rd_it_le (by omega)).1
        refine kz_ic X 0 kd_Rd_readClass_49 (by decide) ?_
        refine lv_istore_n hx hb kd_Rd_readClass_50 rfl hl (by decide) rfl (fun ls hl => ?_)
        have hl : lv_has ls 3 [(2, .int (nI 0)), (1, .int (nB (decide (at_ + 1 < len ∧ src (at_ + 1) = 94)))), (0, .ref rd)] := hl
        have loop51 : ∀ (fuel : Nat) (j : Nat) (at1 : Nat) (P1 : List (Nat × Nat × Nat)) (g1 : Nat → Int32) (g2 : Nat → Int32) (g3 : Nat → Int32) (ls : Array Slot) (H : Heap) (locs : List Loc), len + 1 - j < fuel → (j ≤ len) → (at1 ≤ len) → (kz_pg P1 g1 g2 g3) → (rd_is src len len v.1.1 v.1.2 = rd_is src len (len - j) at1 P1) → lv_has ls 3 [(2, .int (nI j)), (1, .int (nB (decide (at_ + 1 < len ∧ src (at_ + 1) = 94)))), (0, .ref rd)] → kz_U D q s A [(rd, .inr (4, [.ref an, .ref au, .ref ai, .int (nI lv), .ref as_, .int (nI len), .int (nI at1), .ref hg])), (as_, .inl (q 1, 40, .inl (fun x_ => nI (src x_)))), (hg, .inr (3, [.ref ak, .ref al, .ref ah, .int (nI P1.length)])), (ak, .inl (q 0, 81, .inl g1)), (al, .inl (q 0, 81, .inl g2)), (ah, .inl (q 0, 81, .inl g3))] H locs → W p l e (kz_rm 2) s m args below meth c H locs 0 0 Q (F0 m 51 ls []) := by
          intro fuel
          induction fuel with
          | zero => intro j at1 P1 g1 g2 g3 ls H locs hme; exact absurd hme (Nat.not_lt_zero _)
          | succ fuel ih51 =>
            intro j at1 P1 g1 g2 g3 ls H locs hme hj hat1 hP1 hms hl U
            refine lv_iload_n hx hb kd_Rd_readClass_51 rfl (lv_at hl 0 rfl) ?_
            refine lv_aload_n hx hb kd_Rd_readClass_52 rfl (lv_at hl 2 rfl) ?_
            refine kg_Rd_30 X U 0 rfl rfl kd_Rd_readClass_53 ?_
            refine kz_icge X (by first | omega | (have := hsrc at1; omega)) (by first | omega | (have := hsrc at1; omega)) kd_Rd_readClass_56 rfl (fun h56 => ?_) (fun h56 => ?_)
            · have hend : rd_is src len len v.1.1 v.1.2 = (true, at1, P1) := by
                rw [hms]
                rcases Nat.eq_zero_or_pos (len - j) with z | z
                · rw [z]; rfl
                · rw [show len - j = (len - j - 1) + 1 by omega]; exact if_neg (fun y => by omega)
              refine lv_aload_n hx hb kd_Rd_readClass_109 rfl (lv_at hl 2 rfl) ?_
              refine kz_bp X 93 kd_Rd_readClass_110 (by decide) ?_
              refine kz_cVi (av := [.int (nI 93)]) (rest := []) (wr := [(hg, .inr (3, [.ref ak, .ref al, .ref ah, .int (nI P1.length)])), (ak, .inl (q 0, 81, .inl g1)), (al, .inl (q 0, 81, .inl g2)), (ah, .inl (q 0, 81, .inl g3))]) X U hl.1 (cm_Rd_isNext l D q rd an au ai as_ hg at1 lv len 93 src hlen hsrc (by omega) hat1) (by decide) (by decide) ⟨by decide, by decide⟩ tb_298 tb_300 tb_s13 0 rfl rfl tb_9 tb_301 kq_Rd_isNext [0, 1] [2, 3, 4, 5] (by decide) rfl rfl (by decide) (by decide) rfl (Nat.le_of_ble_eq_true rfl) kd_Rd_readClass_112 (fun rv _ H locs hp U => ?_)
              subst hp
              have U : kz_U D q s A [(rd, .inr (4, [.ref an, .ref au, .ref ai, .int (nI lv), .ref as_, .int (nI len), .int (nI at1), .ref hg])), (as_, .inl (q 1, 40, .inl (fun x_ => nI (src x_)))), (hg, .inr (3, [.ref ak, .ref al, .ref ah, .int (nI P1.length)])), (ak, .inl (q 0, 81, .inl g1)), (al, .inl (q 0, 81, .inl g2)), (ah, .inl (q 0, 81, .inl g3))] H locs := U.sub [4, 5, 0, 1, 2, 3] (by decide) rfl
              refine kz_ifneB X kd_Rd_readClass_115 rfl (fun h115 => ?_) (fun h115 => ?_)
              · refine lv_aload_n hx hb kd_Rd_readClass_120 rfl (lv_at hl 2 rfl) ?_
                refine lv_dup hx hb kd_Rd_readClass_121 rfl ?_
                refine kg_Rd_33 X U 0 rfl rfl kd_Rd_readClass_122 ?_
                refine kz_ic X 1 kd_Rd_readClass_125 (by decide) ?_
                refine kz_iadd X kd_Rd_readClass_126 ?_
                refine kz_top (y := nI (at1 + 1)) rfl ?_
                refine kp_Rd_33 X U 0 rfl (Nat.le_of_ble_eq_true rfl) kd_Rd_readClass_127 (fun H locs U => ?_)
                have U : kz_U D q s A [(rd, .inr (4, [.ref an, .ref au, .ref ai, .int (nI lv), .ref as_, .int (nI len), .int (nI (at1 + 1)), .ref hg])), (as_, .inl (q 1, 40, .inl (fun x_ => nI (src x_)))), (hg, .inr (3, [.ref ak, .ref al, .ref ah, .int (nI P1.length)])), (ak, .inl (q 0, 81, .inl g1)), (al, .inl (q 0, 81, .inl g2)), (ah, .inl (q 0, 81, .inl g3))] H locs := U
                refine lv_iload_n hx hb kd_Rd_readClass_130 rfl (lv_at hl 1 rfl) ?_
                refine kz_ifeqB X kd_Rd_readClass_131 rfl (fun h131 => ?_) (fun h131 => absurd h131 (by rw [h18]; decide))
                refine kz_ic X 1 kd_Rd_readClass_166 (by decide) ?_
                refine kz_top (y := nB true) rfl ?_
                exact kz_ez hQ hA X U (((at1 + 1, P1), (g1, g2, g3))) rfl (by rw [hc2, hend, show rd_c3 src len false (true, at1, P1) = (true, at1 + 1, P1) from if_pos (of_decide_eq_true h115)]; exact ⟨rfl, rfl, hP1⟩) kd_Rd_readClass_167
              · refine kz_ic X 0 kd_Rd_readClass_118 (by decide) ?_
                refine kz_top (y := nB false) rfl ?_
                exact kz_ez hQ hA X U (((at1, P1), (g1, g2, g3))) rfl (by rw [hc2, hend, show rd_c3 src len false (true, at1, P1) = (false, at1, P1) from if_neg (of_decide_eq_false h115)]; exact ⟨rfl, rfl, hP1⟩) kd_Rd_readClass_119
            · refine lv_aload_n hx hb kd_Rd_readClass_59 rfl (lv_at hl 2 rfl) ?_
              refine kg_Rd_33 X U 0 rfl rfl kd_Rd_readClass_60 ?_
              refine lv_aload_n hx hb kd_Rd_readClass_63 rfl (lv_at hl 2 rfl) ?_
              refine kg_Rd_30 X U 0 rfl rfl kd_Rd_readClass_64 ?_
              refine kz_icge X (by first | omega | (have := hsrc at1; omega)) (by first | omega | (have := hsrc at1; omega)) kd_Rd_readClass_67 rfl (fun h67 => ?_) (fun h67 => ?_)
              · have hend : rd_is src len len v.1.1 v.1.2 = (true, at1, P1) := by
                  rw [hms]
                  rcases Nat.eq_zero_or_pos (len - j) with z | z
                  · rw [z]; rfl
                  · rw [show len - j = (len - j - 1) + 1 by omega]; exact if_neg (fun y => by omega)
                refine lv_aload_n hx hb kd_Rd_readClass_109 rfl (lv_at hl 2 rfl) ?_
                refine kz_bp X 93 kd_Rd_readClass_110 (by decide) ?_
                refine kz_cVi (av := [.int (nI 93)]) (rest := []) (wr := [(hg, .inr (3, [.ref ak, .ref al, .ref ah, .int (nI P1.length)])), (ak, .inl (q 0, 81, .inl g1)), (al, .inl (q 0, 81, .inl g2)), (ah, .inl (q 0, 81, .inl g3))]) X U hl.1 (cm_Rd_isNext l D q rd an au ai as_ hg at1 lv len 93 src hlen hsrc (by omega) hat1) (by decide) (by decide) ⟨by decide, by decide⟩ tb_298 tb_300 tb_s13 0 rfl rfl tb_9 tb_301 kq_Rd_isNext [0, 1] [2, 3, 4, 5] (by decide) rfl rfl (by decide) (by decide) rfl (Nat.le_of_ble_eq_true rfl) kd_Rd_readClass_112 (fun rv _ H locs hp U => ?_)
                subst hp
                have U : kz_U D q s A [(rd, .inr (4, [.ref an, .ref au, .ref ai, .int (nI lv), .ref as_, .int (nI len), .int (nI at1), .ref hg])), (as_, .inl (q 1, 40, .inl (fun x_ => nI (src x_)))), (hg, .inr (3, [.ref ak, .ref al, .ref ah, .int (nI P1.length)])), (ak, .inl (q 0, 81, .inl g1)), (al, .inl (q 0, 81, .inl g2)), (ah, .inl (q 0, 81, .inl g3))] H locs := U.sub [4, 5, 0, 1, 2, 3] (by decide) rfl
                refine kz_ifneB X kd_Rd_readClass_115 rfl (fun h115 => ?_) (fun h115 => ?_)
                · refine lv_aload_n hx hb kd_Rd_readClass_120 rfl (lv_at hl 2 rfl) ?_
                  refine lv_dup hx hb kd_Rd_readClass_121 rfl ?_
                  refine kg_Rd_33 X U 0 rfl rfl kd_Rd_readClass_122 ?_
                  refine kz_ic X 1 kd_Rd_readClass_125 (by decide) ?_
                  refine kz_iadd X kd_Rd_readClass_126 ?_
                  refine kz_top (y := nI (at1 + 1)) rfl ?_
                  refine kp_Rd_33 X U 0 rfl (Nat.le_of_ble_eq_true rfl) kd_Rd_readClass_127 (fun H locs U => ?_)
                  have U : kz_U D q s A [(rd, .inr (4, [.ref an, .ref au, .ref ai, .int (nI lv), .ref as_, .int (nI len), .int (nI (at1 + 1)), .ref hg])), (as_, .inl (q 1, 40, .inl (fun x_ => nI (src x_)))), (hg, .inr (3, [.ref ak, .ref al, .ref ah, .int (nI P1.length)])), (ak, .inl (q 0, 81, .inl g1)), (al, .inl (q 0, 81, .inl g2)), (ah, .inl (q 0, 81, .inl g3))] H locs := U
                  refine lv_iload_n hx hb kd_Rd_readClass_130 rfl (lv_at hl 1 rfl) ?_
                  refine kz_ifeqB X kd_Rd_readClass_131 rfl (fun h131 => ?_) (fun h131 => absurd h131 (by rw [h18]; decide))
                  refine kz_ic X 1 kd_Rd_readClass_166 (by decide) ?_
                  refine kz_top (y := nB true) rfl ?_
                  exact kz_ez hQ hA X U (((at1 + 1, P1), (g1, g2, g3))) rfl (by rw [hc2, hend, show rd_c3 src len false (true, at1, P1) = (true, at1 + 1, P1) from if_pos (of_decide_eq_true h115)]; exact ⟨rfl, rfl, hP1⟩) kd_Rd_readClass_167
                · refine kz_ic X 0 kd_Rd_readClass_118 (by decide) ?_
                  refine kz_top (y := nB false) rfl ?_
                  exact kz_ez hQ hA X U (((at1, P1), (g1, g2, g3))) rfl (by rw [hc2, hend, show rd_c3 src len false (true, at1, P1) = (false, at1, P1) from if_neg (of_decide_eq_false h115)]; exact ⟨rfl, rfl, hP1⟩) kd_Rd_readClass_119
              · refine lv_aload_n hx hb kd_Rd_readClass_70 rfl (lv_at hl 2 rfl) ?_
                refine kg_Rd_26 X U 0 rfl rfl kd_Rd_readClass_71 ?_
                refine lv_aload_n hx hb kd_Rd_readClass_74 rfl (lv_at hl 2 rfl) ?_
                refine kg_Rd_33 X U 0 rfl rfl kd_Rd_readClass_75 ?_
                refine kz_cald (k := at1) X U 1 rfl (by omega) (by omega) kd_Rd_readClass_78 ?_
                refine kz_top (y := nI (src at1)) rfl ?_
                refine kz_bp X 93 kd_Rd_readClass_79 (by decide) ?_
                refine kz_iceq X (by first | omega | (have := hsrc at1; omega)) (by first | omega | (have := hsrc at1; omega)) kd_Rd_readClass_81 rfl (fun h81 => ?_) (fun h81 => ?_)
                · have hend : rd_is src len len v.1.1 v.1.2 = (true, at1, P1) := by
                    rw [hms]
                    rcases Nat.eq_zero_or_pos (len - j) with z | z
                    · rw [z]; rfl
                    · rw [show len - j = (len - j - 1) + 1 by omega]; exact if_neg (fun y => by omega)
                  refine lv_aload_n hx hb kd_Rd_readClass_109 rfl (lv_at hl 2 rfl) ?_
                  refine kz_bp X 93 kd_Rd_readClass_110 (by decide) ?_
                  refine kz_cVi (av := [.int (nI 93)]) (rest := []) (wr := [(hg, .inr (3, [.ref ak, .ref al, .ref ah, .int (nI P1.length)])), (ak, .inl (q 0, 81, .inl g1)), (al, .inl (q 0, 81, .inl g2)), (ah, .inl (q 0, 81, .inl g3))]) X U hl.1 (cm_Rd_isNext l D q rd an au ai as_ hg at1 lv len 93 src hlen hsrc (by omega) hat1) (by decide) (by decide) ⟨by decide, by decide⟩ tb_298 tb_300 tb_s13 0 rfl rfl tb_9 tb_301 kq_Rd_isNext [0, 1] [2, 3, 4, 5] (by decide) rfl rfl (by decide) (by decide) rfl (Nat.le_of_ble_eq_true rfl) kd_Rd_readClass_112 (fun rv _ H locs hp U => ?_)
                  subst hp
                  have U : kz_U D q s A [(rd, .inr (4, [.ref an, .ref au, .ref ai, .int (nI lv), .ref as_, .int (nI len), .int (nI at1), .ref hg])), (as_, .inl (q 1, 40, .inl (fun x_ => nI (src x_)))), (hg, .inr (3, [.ref ak, .ref al, .ref ah, .int (nI P1.length)])), (ak, .inl (q 0, 81, .inl g1)), (al, .inl (q 0, 81, .inl g2)), (ah, .inl (q 0, 81, .inl g3))] H locs := U.sub [4, 5, 0, 1, 2, 3] (by decide) rfl
                  refine kz_ifneB X kd_Rd_readClass_115 rfl (fun h115 => ?_) (fun h115 => ?_)
                  · refine lv_aload_n hx hb kd_Rd_readClass_120 rfl (lv_at hl 2 rfl) ?_
                    refine lv_dup hx hb kd_Rd_readClass_121 rfl ?_
                    refine kg_Rd_33 X U 0 rfl rfl kd_Rd_readClass_122 ?_
                    refine kz_ic X 1 kd_Rd_readClass_125 (by decide) ?_
                    refine kz_iadd X kd_Rd_readClass_126 ?_
                    refine kz_top (y := nI (at1 + 1)) rfl ?_
                    refine kp_Rd_33 X U 0 rfl (Nat.le_of_ble_eq_true rfl) kd_Rd_readClass_127 (fun H locs U => ?_)
                    have U : kz_U D q s A [(rd, .inr (4, [.ref an, .ref au, .ref ai, .int (nI lv), .ref as_, .int (nI len), .int (nI (at1 + 1)), .ref hg])), (as_, .inl (q 1, 40, .inl (fun x_ => nI (src x_)))), (hg, .inr (3, [.ref ak, .ref al, .ref ah, .int (nI P1.length)])), (ak, .inl (q 0, 81, .inl g1)), (al, .inl (q 0, 81, .inl g2)), (ah, .inl (q 0, 81, .inl g3))] H locs := U
                    refine lv_iload_n hx hb kd_Rd_readClass_130 rfl (lv_at hl 1 rfl) ?_
                    refine kz_ifeqB X kd_Rd_readClass_131 rfl (fun h131 => ?_) (fun h131 => absurd h131 (by rw [h18]; decide))
                    refine kz_ic X 1 kd_Rd_readClass_166 (by decide) ?_
                    refine kz_top (y := nB true) rfl ?_
                    exact kz_ez hQ hA X U (((at1 + 1, P1), (g1, g2, g3))) rfl (by rw [hc2, hend, show rd_c3 src len false (true, at1, P1) = (true, at1 + 1, P1) from if_pos (of_decide_eq_true h115)]; exact ⟨rfl, rfl, hP1⟩) kd_Rd_readClass_167
                  · refine kz_ic X 0 kd_Rd_readClass_118 (by decide) ?_
                    refine kz_top (y := nB false) rfl ?_
                    exact kz_ez hQ hA X U (((at1, P1), (g1, g2, g3))) rfl (by rw [hc2, hend, show rd_c3 src len false (true, at1, P1) = (false, at1, P1) from if_neg (of_decide_eq_false h115)]; exact ⟨rfl, rfl, hP1⟩) kd_Rd_readClass_119
                · refine lv_aload_n hx hb kd_Rd_readClass_84 rfl (lv_at hl 2 rfl) ?_
                  refine kz_cVi (av := []) (rest := []) (wr := []) X U hl.1 (cm_Rd_readItem l D q rd an au ai as_ hg ak al ah at1 lv len src P1 g1 g2 g3 hlen hat1 hsrc hP1) (by decide) (by decide) ⟨by decide, by decide⟩ tb_306 tb_308 tb_s15 0 rfl rfl tb_9 tb_309 kq_Rd_readItem [0, 1, 2, 3, 4, 5] [] (by decide) rfl rfl (by decide) (by decide) rfl (Nat.le_of_ble_eq_true rfl) kd_Rd_readClass_85 (fun rv y H locs hy U => ?_)
                  obtain ⟨hy1, hy2, hy3⟩ := hy
                  subst hy1
                  have U : kz_U D q s A [(rd, .inr (4, [.ref an, .ref au, .ref ai, .int (nI lv), .ref as_, .int (nI len), .int (nI y.1.1), .ref hg])), (as_, .inl (q 1, 40, .inl (fun x_ => nI (src x_)))), (hg, .inr (3, [.ref ak, .ref al, .ref ah, .int (nI y.1.2.length)])), (ak, .inl (q 0, 81, .inl y.2.1)), (al, .inl (q 0, 81, .inl y.2.2.1)), (ah, .inl (q 0, 81, .inl y.2.2.2))] H locs := U
                  refine kz_ifneB X kd_Rd_readClass_88 rfl (fun h88 => ?_) (fun h88 => ?_)
                  · refine lv_aload_n hx hb kd_Rd_readClass_93 rfl (lv_at hl 2 rfl) ?_
                    refine kg_Rd_39 X U 0 rfl rfl kd_Rd_readClass_94 ?_
                    refine kz_ic X 3 kd_Rd_readClass_97 (by decide) ?_
                    refine kz_ic X 0 kd_Rd_readClass_98 (by decide) ?_
                    refine kz_ic X 0 kd_Rd_readClass_99 (by decide) ?_
                    refine kz_cVv (av := [.int (nI 3), .int (nI 0), .int (nI 0)]) (rest := []) (wr := [(rd, .inr (4, [.ref an, .ref au, .ref ai, .int (nI lv), .ref as_, .int (nI len), .int (nI y.1.1), .ref hg])), (as_, .inl (q 1, 40, .inl (fun x_ => nI (src x_))))]) X U hl.1 (cm_Pg_addP l D q hg ak al ah 3 0 1 (nI 0) (y.1.2) y.2.1 y.2.2.1 y.2.2.2 (pk_m1 0).symm hy3) (by decide) (by decide) ⟨by decide, by decide⟩ tb_250 tb_123 tb_124 2 rfl rfl tb_8 tb_125 kq_Pg_add [2, 3, 4, 5] [0, 1] (by decide) rfl rfl (by decide) (by decide) rfl (Nat.le_of_ble_eq_true rfl) kd_Rd_readClass_100 (fun z1 H locs hz1 U => ?_)
                    have U : kz_U D q s A [(rd, .inr (4, [.ref an, .ref au, .ref ai, .int (nI lv), .ref as_, .int (nI len), .int (nI y.1.1), .ref hg])), (as_, .inl (q 1, 40, .inl (fun x_ => nI (src x_)))), (hg, .inr (3, [.ref ak, .ref al, .ref ah, .int (nI ((pg_add y.1.2 (3, 0, 1)).length))])), (ak, .inl (q 0, 81, .inl z1.1)), (al, .inl (q 0, 81, .inl z1.2.1)), (ah, .inl (q 0, 81, .inl z1.2.2))] H locs := U
                    refine lv_iinc (k := 0) (v := nI (j + 1)) hx hb kd_Rd_readClass_103 hl rfl (nI_add j 1) (by decide) rfl (fun ls hl => ?_)
                    have hl : lv_has ls 3 [(2, .int (nI (j + 1))), (1, .int (nB (decide (at_ + 1 < len ∧ src (at_ + 1) = 94)))), (0, .ref rd)] := hl
                    refine lv_goto hx hb kd_Rd_readClass_106 rfl ?_
                    exact ih51 (j + 1) _ _ _ _ _ _ _ _ (by omega) (by omega) (by rw [hy2]; exact (rd_it_le hat1).1) hz1 (by rw [hms, show len - j = (len - (j + 1)) + 1 by omega, hy2]; exact (if_pos ⟨h67, h81⟩).trans (if_pos h88)) (lv_sub hl [0, 1, 2] rfl) U
                  · refine kz_ic X 0 kd_Rd_readClass_91 (by decide) ?_
                    refine kz_top (y := nB false) rfl ?_
                    exact kz_ez hQ hA X U y rfl (by rw [hc2, show rd_is src len len v.1.1 v.1.2 = rd_it src len at1 P1 from by rw [hms, show len - j = (len - j - 1) + 1 by omega]; exact (if_pos ⟨h67, h81⟩).trans (if_neg (by rw [h88]; decide)), show rd_c3 src len false (rd_it src len at1 P1) = rd_it src len at1 P1 from if_neg (by rw [h88]; decide)]; exact ⟨by rw [h88], hy2, hy3⟩) kd_Rd_readClass_92
        exact loop51 _ 0 v.1.1 v.1.2 v.2.1 v.2.2.1 v.2.2.2 _ _ _ (Nat.lt_succ_self _) (by omega) hv1l hv3 rfl (lv_sub hl [0, 1, 2] rfl) U
      · refine kz_ic X 0 kd_Rd_readClass_47 (by decide) ?_
        refine kz_top (y := nB false) rfl ?_
        exact kz_ez hQ hA X U v rfl (by rw [hcx, show rd_c1 src len false (at_ + 1) P = rd_it src len (at_ + 1) P from (if_neg (of_decide_eq_false h37)).trans (if_neg (by rw [h44]; decide))]; exact ⟨by rw [h44], hv2, hv3⟩) kd_Rd_readClass_48
  · have hcx : rd_cx src len at_ P = rd_c1 src len true (at_ + 1 + 1) P := if_pos (of_decide_eq_true h18)
    have hat18 := (of_decide_eq_true h18).1
    refine lv_aload_n hx hb kd_Rd_readClass_21 rfl (lv_at hl 1 rfl) ?_
    refine lv_dup hx hb kd_Rd_readClass_22 rfl ?_
    refine kg_Rd_33 X U 0 rfl rfl kd_Rd_readClass_23 ?_
    refine kz_ic X 1 kd_Rd_readClass_26 (by decide) ?_
    refine kz_iadd X kd_Rd_readClass_27 ?_
    refine kz_top (y := nI (at_ + 1 + 1)) rfl ?_
    refine kp_Rd_33 X U 0 rfl (Nat.le_of_ble_eq_true rfl) kd_Rd_readClass_28 (fun H locs U => ?_)
    have U : kz_U D q s A [(rd, .inr (4, [.ref an, .ref au, .ref ai, .int (nI lv), .ref as_, .int (nI len), .int (nI (at_ + 1 + 1)), .ref hg])), (as_, .inl (q 1, 40, .inl (fun x_ => nI (src x_)))), (hg, .inr (3, [.ref ak, .ref al, .ref ah, .int (nI P.length)])), (ak, .inl (q 0, 81, .inl fk)), (al, .inl (q 0, 81, .inl fl)), (ah, .inl (q 0, 81, .inl fh))] H locs := U
    refine lv_aload_n hx hb kd_Rd_readClass_31 rfl (lv_at hl 1 rfl) ?_
    refine kz_bp X 93 kd_Rd_readClass_32 (by decide) ?_
    refine kz_cVi (av := [.int (nI 93)]) (rest := []) (wr := [(hg, .inr (3, [.ref ak, .ref al, .ref ah, .int (nI P.length)])), (ak, .inl (q 0, 81, .inl fk)), (al, .inl (q 0, 81, .inl fl)), (ah, .inl (q 0, 81, .inl fh))]) X U hl.1 (cm_Rd_isNext l D q rd an au ai as_ hg (at_ + 1 + 1) lv len 93 src hlen hsrc (by omega) (by omega)) (by decide) (by decide) ⟨by decide, by decide⟩ tb_298 tb_300 tb_s13 0 rfl rfl tb_9 tb_301 kq_Rd_isNext [0, 1] [2, 3, 4, 5] (by decide) rfl rfl (by decide) (by decide) rfl (Nat.le_of_ble_eq_true rfl) kd_Rd_readClass_34 (fun rv _ H locs hp U => ?_)
    subst hp
    have U : kz_U D q s A [(rd, .inr (4, [.ref an, .ref au, .ref ai, .int (nI lv), .ref as_, .int (nI len), .int (nI (at_ + 1 + 1)), .ref hg])), (as_, .inl (q 1, 40, .inl (fun x_ => nI (src x_)))), (hg, .inr (3, [.ref ak, .ref al, .ref ah, .int (nI P.length)])), (ak, .inl (q 0, 81, .inl fk)), (al, .inl (q 0, 81, .inl fl)), (ah, .inl (q 0, 81, .inl fh))] H locs := U.sub [4, 5, 0, 1, 2, 3] (by decide) rfl
    refine kz_ifneB X kd_Rd_readClass_37 rfl (fun h37 => ?_) (fun h37 => ?_)
    · refine kz_ic X 0 kd_Rd_readClass_47 (by decide) ?_
      refine kz_top (y := nB false) rfl ?_
      exact kz_ez hQ hA X U (((at_ + 1 + 1, P), (fk, fl, fh))) rfl (by rw [hcx, show rd_c1 src len true (at_ + 1 + 1) P = (false, at_ + 1 + 1, P) from if_pos (of_decide_eq_true h37)]; exact ⟨rfl, rfl, hP⟩) kd_Rd_readClass_48
    · refine lv_aload_n hx hb kd_Rd_readClass_40 rfl (lv_at hl 1 rfl) ?_
      refine kz_cVi (av := []) (rest := []) (wr := []) X U hl.1 (cm_Rd_readItem l D q rd an au ai as_ hg ak al ah (at_ + 1 + 1) lv len src P fk fl fh hlen (by omega) hsrc hP) (by decide) (by decide) ⟨by decide, by decide⟩ tb_306 tb_308 tb_s15 0 rfl rfl tb_9 tb_309 kq_Rd_readItem [0, 1, 2, 3, 4, 5] [] (by decide) rfl rfl (by decide) (by decide) rfl (Nat.le_of_ble_eq_true rfl) kd_Rd_readClass_41 (fun rv v H locs hv U => ?_)
      obtain ⟨hv1, hv2, hv3⟩ := hv
      subst hv1
      have U : kz_U D q s A [(rd, .inr (4, [.ref an, .ref au, .ref ai, .int (nI lv), .ref as_, .int (nI len), .int (nI v.1.1), .ref hg])), (as_, .inl (q 1, 40, .inl (fun x_ => nI (src x_)))), (hg, .inr (3, [.ref ak, .ref al, .ref ah, .int (nI v.1.2.length)])), (ak, .inl (q 0, 81, .inl v.2.1)), (al, .inl (q 0, 81, .inl v.2.2.1)), (ah, .inl (q 0, 81, .inl v.2.2.2))] H locs := U
      refine kz_ifneB X kd_Rd_readClass_44 rfl (fun h44 => ?_) (fun h44 => ?_)
      · have hc2 : rd_cx src len at_ P = rd_c3 src len true (rd_is src len len v.1.1 v.1.2) := hcx.trans ((if_neg (of_decide_eq_false h37)).trans (by unfold rd_c2; rw [if_pos h44, ← hv2]))
        have hv1l : v.1.1 ≤ len := by rw [hv2]; exact (rd_it_le (by omega)).1
        refine kz_ic X 0 kd_Rd_readClass_49 (by decide) ?_
        refine lv_istore_n hx hb kd_Rd_readClass_50 rfl hl (by decide) rfl (fun ls hl => ?_)
        have hl : lv_has ls 3 [(2, .int (nI 0)), (1, .int (nB (decide (at_ + 1 < len ∧ src (at_ + 1) = 94)))), (0, .ref rd)] := hl
        have loop51 : ∀ (fuel : Nat) (j : Nat) (at1 : Nat) (P1 : List (Nat × Nat × Nat)) (g1 : Nat → Int32) (g2 : Nat → Int32) (g3 : Nat → Int32) (ls : Array Slot) (H : Heap) (locs : List Loc), len + 1 - j < fuel → (j ≤ len) → (at1 ≤ len) → (kz_pg P1 g1 g2 g3) → (rd_is src len len v.1.1 v.1.2 = rd_is src len (len - j) at1 P1) → lv_has ls 3 [(2, .int (nI j)), (1, .int (nB (decide (at_ + 1 < len ∧ src (at_ + 1) = 94)))), (0, .ref rd)] → kz_U D q s A [(rd, .inr (4, [.ref an, .ref au, .ref ai, .int (nI lv), .ref as_, .int (nI len), .int (nI at1), .ref hg])), (as_, .inl (q 1, 40, .inl (fun x_ => nI (src x_)))), (hg, .inr (3, [.ref ak, .ref al, .ref ah, .int (nI P1.length)])), (ak, .inl (q 0, 81, .inl g1)), (al, .inl (q 0, 81, .inl g2)), (ah, .inl (q 0, 81, .inl g3))] H locs → W p l e (kz_rm 2) s m args below meth c H locs 0 0 Q (F0 m 51 ls []) := by
          intro fuel
          induction fuel with
          | zero => intro j at1 P1 g1 g2 g3 ls H locs hme; exact absurd hme (Nat.not_lt_zero _)
          | succ fuel ih51 =>
            intro j at1 P1 g1 g2 g3 ls H locs hme hj hat1 hP1 hms hl U
            refine lv_iload_n hx hb kd_Rd_readClass_51 rfl (lv_at hl 0 rfl) ?_
            refine lv_aload_n hx hb kd_Rd_readClass_52 rfl (lv_at hl 2 rfl) ?_
            refine kg_Rd_30 X U 0 rfl rfl kd_Rd_readClass_53 ?_
            refine kz_icge X (by first | omega | (have := hsrc at1; omega)) (by first | omega | (have := hsrc at1; omega)) kd_Rd_readClass_56 rfl (fun h56 => ?_) (fun h56 => ?_)
            · have hend : rd_is src len len v.1.1 v.1.2 = (true, at1, P1) := by
                rw [hms]
                rcases Nat.eq_zero_or_pos (len - j) with z | z
                · rw [z]; rfl
                · rw [show len - j = (len - j - 1) + 1 by omega]; exact if_neg (fun y => by omega)
              refine lv_aload_n hx hb kd_Rd_readClass_109 rfl (lv_at hl 2 rfl) ?_
              refine kz_bp X 93 kd_Rd_readClass_110 (by decide) ?_
              refine kz_cVi (av := [.int (nI 93)]) (rest := []) (wr := [(hg, .inr (3, [.ref ak, .ref al, .ref ah, .int (nI P1.length)])), (ak, .inl (q 0, 81, .inl g1)), (al, .inl (q 0, 81, .inl g2)), (ah, .inl (q 0, 81, .inl g3))]) X U hl.1 (cm_Rd_isNext l D q rd an au ai as_ hg at1 lv len 93 src hlen hsrc (by omega) hat1) (by decide) (by decide) ⟨by decide, by decide⟩ tb_298 tb_300 tb_s13 0 rfl rfl tb_9 tb_301 kq_Rd_isNext [0, 1] [2, 3, 4, 5] (by decide) rfl rfl (by decide) (by decide) rfl (Nat.le_of_ble_eq_true rfl) kd_Rd_readClass_112 (fun rv _ H locs hp U => ?_)
              subst hp
              have U : kz_U D q s A [(rd, .inr (4, [.ref an, .ref au, .ref ai, .int (nI lv), .ref as_, .int (nI len), .int (nI at1), .ref hg])), (as_, .inl (q 1, 40, .inl (fun x_ => nI (src x_)))), (hg, .inr (3, [.ref ak, .ref al, .ref ah, .int (nI P1.length)])), (ak, .inl (q 0, 81, .inl g1)), (al, .inl (q 0, 81, .inl g2)), (ah, .inl (q 0, 81, .inl g3))] H locs := U.sub [4, 5, 0, 1, 2, 3] (by decide) rfl
              refine kz_ifneB X kd_Rd_readClass_115 rfl (fun h115 => ?_) (fun h115 => ?_)
              · refine lv_aload_n hx hb kd_Rd_readClass_120 rfl (lv_at hl 2 rfl) ?_
                refine lv_dup hx hb kd_Rd_readClass_121 rfl ?_
                refine kg_Rd_33 X U 0 rfl rfl kd_Rd_readClass_122 ?_
                refine kz_ic X 1 kd_Rd_readClass_125 (by decide) ?_
                refine kz_iadd X kd_Rd_readClass_126 ?_
                refine kz_top (y := nI (at1 + 1)) rfl ?_
                refine kp_Rd_33 X U 0 rfl (Nat.le_of_ble_eq_true rfl) kd_Rd_readClass_127 (fun H locs U => ?_)
                have U : kz_U D q s A [(rd, .inr (4, [.ref an, .ref au, .ref ai, .int (nI lv), .ref as_, .int (nI len), .int (nI (at1 + 1)), .ref hg])), (as_, .inl (q 1, 40, .inl (fun x_ => nI (src x_)))), (hg, .inr (3, [.ref ak, .ref al, .ref ah, .int (nI P1.length)])), (ak, .inl (q 0, 81, .inl g1)), (al, .inl (q 0, 81, .inl g2)), (ah, .inl (q 0, 81, .inl g3))] H locs := U
                refine lv_iload_n hx hb kd_Rd_readClass_130 rfl (lv_at hl 1 rfl) ?_
                refine kz_ifeqB X kd_Rd_readClass_131 rfl (fun h131 => absurd h131 (by rw [h18]; decide)) (fun h131 => ?_)
                refine lv_aload_n hx hb kd_Rd_readClass_134 rfl (lv_at hl 2 rfl) ?_
                refine kg_Rd_39 X U 0 rfl rfl kd_Rd_readClass_135 ?_
                refine kz_ic X 5 kd_Rd_readClass_138 (by decide) ?_
                refine kz_ic X 0 kd_Rd_readClass_139 (by decide) ?_
                refine kz_ic X 0 kd_Rd_readClass_140 (by decide) ?_
                refine kz_cVv (av := [.int (nI 5), .int (nI 0), .int (nI 0)]) (rest := []) (wr := [(rd, .inr (4, [.ref an, .ref au, .ref ai, .int (nI lv), .ref as_, .int (nI len), .int (nI (at1 + 1)), .ref hg])), (as_, .inl (q 1, 40, .inl (fun x_ => nI (src x_))))]) X U hl.1 (cm_Pg_addP l D q hg ak al ah 5 0 1 (nI 0) (P1) g1 g2 g3 (pk_m1 0).symm hP1) (by decide) (by decide) ⟨by decide, by decide⟩ tb_250 tb_123 tb_124 2 rfl rfl tb_8 tb_125 kq_Pg_add [2, 3, 4, 5] [0, 1] (by decide) rfl rfl (by decide) (by decide) rfl (Nat.le_of_ble_eq_true rfl) kd_Rd_readClass_141 (fun z1 H locs hz1 U => ?_)
                have U : kz_U D q s A [(rd, .inr (4, [.ref an, .ref au, .ref ai, .int (nI lv), .ref as_, .int (nI len), .int (nI (at1 + 1)), .ref hg])), (as_, .inl (q 1, 40, .inl (fun x_ => nI (src x_)))), (hg, .inr (3, [.ref ak, .ref al, .ref ah, .int (nI ((pg_add P1 (5, 0, 1)).length))])), (ak, .inl (q 0, 81, .inl z1.1)), (al, .inl (q 0, 81, .inl z1.2.1)), (ah, .inl (q 0, 81, .inl z1.2.2))] H locs := U
                refine lv_aload_n hx hb kd_Rd_readClass_144 rfl (lv_at hl 2 rfl) ?_
                refine kg_Rd_39 X U 0 rfl rfl kd_Rd_readClass_145 ?_
                refine kz_ic X 1 kd_Rd_readClass_148 (by decide) ?_
                refine kz_bp X 32 kd_Rd_readClass_149 (by decide) ?_
                refine kz_bp X 126 kd_Rd_readClass_151 (by decide) ?_
                refine kz_cVv (av := [.int (nI 1), .int (nI 32), .int (nI 126)]) (rest := []) (wr := [(rd, .inr (4, [.ref an, .ref au, .ref ai, .int (nI lv), .ref as_, .int (nI len), .int (nI (at1 + 1)), .ref hg])), (as_, .inl (q 1, 40, .inl (fun x_ => nI (src x_))))]) X U hl.1 (cm_Pg_addP l D q hg ak al ah 1 32 127 (nI 126) (pg_add P1 (5, 0, 1)) z1.1 z1.2.1 z1.2.2 (pk_m1 126).symm hz1) (by decide) (by decide) ⟨by decide, by decide⟩ tb_250 tb_123 tb_124 2 rfl rfl tb_8 tb_125 kq_Pg_add [2, 3, 4, 5] [0, 1] (by decide) rfl rfl (by decide) (by decide) rfl (Nat.le_of_ble_eq_true rfl) kd_Rd_readClass_153 (fun z2 H locs hz2 U => ?_)
                have U : kz_U D q s A [(rd, .inr (4, [.ref an, .ref au, .ref ai, .int (nI lv), .ref as_, .int (nI len), .int (nI (at1 + 1)), .ref hg])), (as_, .inl (q 1, 40, .inl (fun x_ => nI (src x_)))), (hg, .inr (3, [.ref ak, .ref al, .ref ah, .int (nI ((pg_add (pg_add P1 (5, 0, 1)) (1, 32, 127)).length))])), (ak, .inl (q 0, 81, .inl z2.1)), (al, .inl (q 0, 81, .inl z2.2.1)), (ah, .inl (q 0, 81, .inl z2.2.2))] H locs := U
                refine lv_aload_n hx hb kd_Rd_readClass_156 rfl (lv_at hl 2 rfl) ?_
                refine kg_Rd_39 X U 0 rfl rfl kd_Rd_readClass_157 ?_
                refine kz_ic X 4 kd_Rd_readClass_160 (by decide) ?_
                refine kz_ic X 0 kd_Rd_readClass_161 (by decide) ?_
                refine kz_ic X 0 kd_Rd_readClass_162 (by decide) ?_
                refine kz_cVv (av := [.int (nI 4), .int (nI 0), .int (nI 0)]) (rest := []) (wr := [(rd, .inr (4, [.ref an, .ref au, .ref ai, .int (nI lv), .ref as_, .int (nI len), .int (nI (at1 + 1)), .ref hg])), (as_, .inl (q 1, 40, .inl (fun x_ => nI (src x_))))]) X U hl.1 (cm_Pg_addP l D q hg ak al ah 4 0 1 (nI 0) (pg_add (pg_add P1 (5, 0, 1)) (1, 32, 127)) z2.1 z2.2.1 z2.2.2 (pk_m1 0).symm hz2) (by decide) (by decide) ⟨by decide, by decide⟩ tb_250 tb_123 tb_124 2 rfl rfl tb_8 tb_125 kq_Pg_add [2, 3, 4, 5] [0, 1] (by decide) rfl rfl (by decide) (by decide) rfl (Nat.le_of_ble_eq_true rfl) kd_Rd_readClass_163 (fun z3 H locs hz3 U => ?_)
                have U : kz_U D q s A [(rd, .inr (4, [.ref an, .ref au, .ref ai, .int (nI lv), .ref as_, .int (nI len), .int (nI (at1 + 1)), .ref hg])), (as_, .inl (q 1, 40, .inl (fun x_ => nI (src x_)))), (hg, .inr (3, [.ref ak, .ref al, .ref ah, .int (nI ((pg_add (pg_add (pg_add P1 (5, 0, 1)) (1, 32, 127)) (4, 0, 1)).length))])), (ak, .inl (q 0, 81, .inl z3.1)), (al, .inl (q 0, 81, .inl z3.2.1)), (ah, .inl (q 0, 81, .inl z3.2.2))] H locs := U
                refine kz_ic X 1 kd_Rd_readClass_166 (by decide) ?_
                refine kz_top (y := nB true) rfl ?_
                exact kz_ez hQ hA X U (((at1 + 1, pg_add (pg_add (pg_add P1 (5, 0, 1)) (1, 32, 127)) (4, 0, 1)), z3)) rfl (by rw [hc2, hend, show rd_c3 src len true (true, at1, P1) = (true, at1 + 1, pg_add (pg_add (pg_add P1 (5, 0, 1)) (1, 32, 127)) (4, 0, 1)) from if_pos (of_decide_eq_true h115)]; exact ⟨rfl, rfl, hz3⟩) kd_Rd_readClass_167
              · refine kz_ic X 0 kd_Rd_readClass_118 (by decide) ?_
                refine kz_top (y := nB false) rfl ?_
                exact kz_ez hQ hA X U (((at1, P1), (g1, g2, g3))) rfl (by rw [hc2, hend, show rd_c3 src len true (true, at1, P1) = (false, at1, P1) from if_neg (of_decide_eq_false h115)]; exact ⟨rfl, rfl, hP1⟩) kd_Rd_readClass_119
            · refine lv_aload_n hx hb kd_Rd_readClass_59 rfl (lv_at hl 2 rfl) ?_
              refine kg_Rd_33 X U 0 rfl rfl kd_Rd_readClass_60 ?_
              refine lv_aload_n hx hb kd_Rd_readClass_63 rfl (lv_at hl 2 rfl) ?_
              refine kg_Rd_30 X U 0 rfl rfl kd_Rd_readClass_64 ?_
              refine kz_icge X (by first | omega | (have := hsrc at1; omega)) (by first | omega | (have := hsrc at1; omega)) kd_Rd_readClass_67 rfl (fun h67 => ?_) (fun h67 => ?_)
              · have hend : rd_is src len len v.1.1 v.1.2 = (true, at1, P1) := by
                  rw [hms]
                  rcases Nat.eq_zero_or_pos (len - j) with z | z
                  · rw [z]; rfl
                  · rw [show len - j = (len - j - 1) + 1 by omega]; exact if_neg (fun y => by omega)
                refine lv_aload_n hx hb kd_Rd_readClass_109 rfl (lv_at hl 2 rfl) ?_
                refine kz_bp X 93 kd_Rd_readClass_110 (by decide) ?_
                refine kz_cVi (av := [.int (nI 93)]) (rest := []) (wr := [(hg, .inr (3, [.ref ak, .ref al, .ref ah, .int (nI P1.length)])), (ak, .inl (q 0, 81, .inl g1)), (al, .inl (q 0, 81, .inl g2)), (ah, .inl (q 0, 81, .inl g3))]) X U hl.1 (cm_Rd_isNext l D q rd an au ai as_ hg at1 lv len 93 src hlen hsrc (by omega) hat1) (by decide) (by decide) ⟨by decide, by decide⟩ tb_298 tb_300 tb_s13 0 rfl rfl tb_9 tb_301 kq_Rd_isNext [0, 1] [2, 3, 4, 5] (by decide) rfl rfl (by decide) (by decide) rfl (Nat.le_of_ble_eq_true rfl) kd_Rd_readClass_112 (fun rv _ H locs hp U => ?_)
                subst hp
                have U : kz_U D q s A [(rd, .inr (4, [.ref an, .ref au, .ref ai, .int (nI lv), .ref as_, .int (nI len), .int (nI at1), .ref hg])), (as_, .inl (q 1, 40, .inl (fun x_ => nI (src x_)))), (hg, .inr (3, [.ref ak, .ref al, .ref ah, .int (nI P1.length)])), (ak, .inl (q 0, 81, .inl g1)), (al, .inl (q 0, 81, .inl g2)), (ah, .inl (q 0, 81, .inl g3))] H locs := U.sub [4, 5, 0, 1, 2, 3] (by decide) rfl
                refine kz_ifneB X kd_Rd_readClass_115 rfl (fun h115 => ?_) (fun h115 => ?_)
                · refine lv_aload_n hx hb kd_Rd_readClass_120 rfl (lv_at hl 2 rfl) ?_
                  refine lv_dup hx hb kd_Rd_readClass_121 rfl ?_
                  refine kg_Rd_33 X U 0 rfl rfl kd_Rd_readClass_122 ?_
                  refine kz_ic X 1 kd_Rd_readClass_125 (by decide) ?_
                  refine kz_iadd X kd_Rd_readClass_126 ?_
                  refine kz_top (y := nI (at1 + 1)) rfl ?_
                  refine kp_Rd_33 X U 0 rfl (Nat.le_of_ble_eq_true rfl) kd_Rd_readClass_127 (fun H locs U => ?_)
                  have U : kz_U D q s A [(rd, .inr (4, [.ref an, .ref au, .ref ai, .int (nI lv), .ref as_, .int (nI len), .int (nI (at1 + 1)), .ref hg])), (as_, .inl (q 1, 40, .inl (fun x_ => nI (src x_)))), (hg, .inr (3, [.ref ak, .ref al, .ref ah, .int (nI P1.length)])), (ak, .inl (q 0, 81, .inl g1)), (al, .inl (q 0, 81, .inl g2)), (ah, .inl (q 0, 81, .inl g3))] H locs := U
                  refine lv_iload_n hx hb kd_Rd_readClass_130 rfl (lv_at hl 1 rfl) ?_
                  refine kz_ifeqB X kd_Rd_readClass_131 rfl (fun h131 => absurd h131 (by rw [h18]; decide)) (fun h131 => ?_)
                  refine lv_aload_n hx hb kd_Rd_readClass_134 rfl (lv_at hl 2 rfl) ?_
                  refine kg_Rd_39 X U 0 rfl rfl kd_Rd_readClass_135 ?_
                  refine kz_ic X 5 kd_Rd_readClass_138 (by decide) ?_
                  refine kz_ic X 0 kd_Rd_readClass_139 (by decide) ?_
                  refine kz_ic X 0 kd_Rd_readClass_140 (by decide) ?_
                  refine kz_cVv (av := [.int (nI 5), .int (nI 0), .int (nI 0)]) (rest := []) (wr := [(rd, .inr (4, [.ref an, .ref au, .ref ai, .int (nI lv), .ref as_, .int (nI len), .int (nI (at1 + 1)), .ref hg])), (as_, .inl (q 1, 40, .inl (fun x_ => nI (src x_))))]) X U hl.1 (cm_Pg_addP l D q hg ak al ah 5 0 1 (nI 0) (P1) g1 g2 g3 (pk_m1 0).symm hP1) (by decide) (by decide) ⟨by decide, by decide⟩ tb_250 tb_123 tb_124 2 rfl rfl tb_8 tb_125 kq_Pg_add [2, 3, 4, 5] [0, 1] (by decide) rfl rfl (by decide) (by decide) rfl (Nat.le_of_ble_eq_true rfl) kd_Rd_readClass_141 (fun z1 H locs hz1 U => ?_)
                  have U : kz_U D q s A [(rd, .inr (4, [.ref an, .ref au, .ref ai, .int (nI lv), .ref as_, .int (nI len), .int (nI (at1 + 1)), .ref hg])), (as_, .inl (q 1, 40, .inl (fun x_ => nI (src x_)))), (hg, .inr (3, [.ref ak, .ref al, .ref ah, .int (nI ((pg_add P1 (5, 0, 1)).length))])), (ak, .inl (q 0, 81, .inl z1.1)), (al, .inl (q 0, 81, .inl z1.2.1)), (ah, .inl (q 0, 81, .inl z1.2.2))] H locs := U
                  refine lv_aload_n hx hb kd_Rd_readClass_144 rfl (lv_at hl 2 rfl) ?_
                  refine kg_Rd_39 X U 0 rfl rfl kd_Rd_readClass_145 ?_
                  refine kz_ic X 1 kd_Rd_readClass_148 (by decide) ?_
                  refine kz_bp X 32 kd_Rd_readClass_149 (by decide) ?_
                  refine kz_bp X 126 kd_Rd_readClass_151 (by decide) ?_
                  refine kz_cVv (av := [.int (nI 1), .int (nI 32), .int (nI 126)]) (rest := []) (wr := [(rd, .inr (4, [.ref an, .ref au, .ref ai, .int (nI lv), .ref as_, .int (nI len), .int (nI (at1 + 1)), .ref hg])), (as_, .inl (q 1, 40, .inl (fun x_ => nI (src x_))))]) X U hl.1 (cm_Pg_addP l D q hg ak al ah 1 32 127 (nI 126) (pg_add P1 (5, 0, 1)) z1.1 z1.2.1 z1.2.2 (pk_m1 126).symm hz1) (by decide) (by decide) ⟨by decide, by decide⟩ tb_250 tb_123 tb_124 2 rfl rfl tb_8 tb_125 kq_Pg_add [2, 3, 4, 5] [0, 1] (by decide) rfl rfl (by decide) (by decide) rfl (Nat.le_of_ble_eq_true rfl) kd_Rd_readClass_153 (fun z2 H locs hz2 U => ?_)
                  have U : kz_U D q s A [(rd, .inr (4, [.ref an, .ref au, .ref ai, .int (nI lv), .ref as_, .int (nI len), .int (nI (at1 + 1)), .ref hg])), (as_, .inl (q 1, 40, .inl (fun x_ => nI (src x_)))), (hg, .inr (3, [.ref ak, .ref al, .ref ah, .int (nI ((pg_add (pg_add P1 (5, 0, 1)) (1, 32, 127)).length))])), (ak, .inl (q 0, 81, .inl z2.1)), (al, .inl (q 0, 81, .inl z2.2.1)), (ah, .inl (q 0, 81, .inl z2.2.2))] H locs := U
                  refine lv_aload_n hx hb kd_Rd_readClass_156 rfl (lv_at hl 2 rfl) ?_
                  refine kg_Rd_39 X U 0 rfl rfl kd_Rd_readClass_157 ?_
                  refine kz_ic X 4 kd_Rd_readClass_160 (by decide) ?_
                  refine kz_ic X 0 kd_Rd_readClass_161 (by decide) ?_
                  refine kz_ic X 0 kd_Rd_readClass_162 (by decide) ?_
                  refine kz_cVv (av := [.int (nI 4), .int (nI 0), .int (nI 0)]) (rest := []) (wr := [(rd, .inr (4, [.ref an, .ref au, .ref ai, .int (nI lv), .ref as_, .int (nI len), .int (nI (at1 + 1)), .ref hg])), (as_, .inl (q 1, 40, .inl (fun x_ => nI (src x_))))]) X U hl.1 (cm_Pg_addP l D q hg ak al ah 4 0 1 (nI 0) (pg_add (pg_add P1 (5, 0, 1)) (1, 32, 127)) z2.1 z2.2.1 z2.2.2 (pk_m1 0).symm hz2) (by decide) (by decide) ⟨by decide, by decide⟩ tb_250 tb_123 tb_124 2 rfl rfl tb_8 tb_125 kq_Pg_add [2, 3, 4, 5] [0, 1] (by decide) rfl rfl (by decide) (by decide) rfl (Nat.le_of_ble_eq_true rfl) kd_Rd_readClass_163 (fun z3 H locs hz3 U => ?_)
                  have U : kz_U D q s A [(rd, .inr (4, [.ref an, .ref au, .ref ai, .int (nI lv), .ref as_, .int (nI len), .int (nI (at1 + 1)), .ref hg])), (as_, .inl (q 1, 40, .inl (fun x_ => nI (src x_)))), (hg, .inr (3, [.ref ak, .ref al, .ref ah, .int (nI ((pg_add (pg_add (pg_add P1 (5, 0, 1)) (1, 32, 127)) (4, 0, 1)).length))])), (ak, .inl (q 0, 81, .inl z3.1)), (al, .inl (q 0, 81, .inl z3.2.1)), (ah, .inl (q 0, 81, .inl z3.2.2))] H locs := U
                  refine kz_ic X 1 kd_Rd_readClass_166 (by decide) ?_
                  refine kz_top (y := nB true) rfl ?_
                  exact kz_ez hQ hA X U (((at1 + 1, pg_add (pg_add (pg_add P1 (5, 0, 1)) (1, 32, 127)) (4, 0, 1)), z3)) rfl (by rw [hc2, hend, show rd_c3 src len true (true, at1, P1) = (true, at1 + 1, pg_add (pg_add (pg_add P1 (5, 0, 1)) (1, 32, 127)) (4, 0, 1)) from if_pos (of_decide_eq_true h115)]; exact ⟨rfl, rfl, hz3⟩) kd_Rd_readClass_167
                · refine kz_ic X 0 kd_Rd_readClass_118 (by decide) ?_
                  refine kz_top (y := nB false) rfl ?_
                  exact kz_ez hQ hA X U (((at1, P1), (g1, g2, g3))) rfl (by rw [hc2, hend, show rd_c3 src len true (true, at1, P1) = (false, at1, P1) from if_neg (of_decide_eq_false h115)]; exact ⟨rfl, rfl, hP1⟩) kd_Rd_readClass_119
              · refine lv_aload_n hx hb kd_Rd_readClass_70 rfl (lv_at hl 2 rfl) ?_
                refine kg_Rd_26 X U 0 rfl rfl kd_Rd_readClass_71 ?_
                refine lv_aload_n hx hb kd_Rd_readClass_74 rfl (lv_at hl 2 rfl) ?_
                refine kg_Rd_33 X U 0 rfl rfl kd_Rd_readClass_75 ?_
                refine kz_cald (k := at1) X U 1 rfl (by omega) (by omega) kd_Rd_readClass_78 ?_
                refine kz_top (y := nI (src at1)) rfl ?_
                refine kz_bp X 93 kd_Rd_readClass_79 (by decide) ?_
                refine kz_iceq X (by first | omega | (have := hsrc at1; omega)) (by first | omega | (have := hsrc at1; omega)) kd_Rd_readClass_81 rfl (fun h81 => ?_) (fun h81 => ?_)
                · have hend : rd_is src len len v.1.1 v.1.2 = (true, at1, P1) := by
                    rw [hms]
                    rcases Nat.eq_zero_or_pos (len - j) with z | z
                    · rw [z]; rfl
                    · rw [show len - j = (len - j - 1) + 1 by omega]; exact if_neg (fun y => by omega)
                  refine lv_aload_n hx hb kd_Rd_readClass_109 rfl (lv_at hl 2 rfl) ?_
                  refine kz_bp X 93 kd_Rd_readClass_110 (by decide) ?_
                  refine kz_cVi (av := [.int (nI 93)]) (rest := []) (wr := [(hg, .inr (3, [.ref ak, .ref al, .ref ah, .int (nI P1.length)])), (ak, .inl (q 0, 81, .inl g1)), (al, .inl (q 0, 81, .inl g2)), (ah, .inl (q 0, 81, .inl g3))]) X U hl.1 (cm_Rd_isNext l D q rd an au ai as_ hg at1 lv len 93 src hlen hsrc (by omega) hat1) (by decide) (by decide) ⟨by decide, by decide⟩ tb_298 tb_300 tb_s13 0 rfl rfl tb_9 tb_301 kq_Rd_isNext [0, 1] [2, 3, 4, 5] (by decide) rfl rfl (by decide) (by decide) rfl (Nat.le_of_ble_eq_true rfl) kd_Rd_readClass_112 (fun rv _ H locs hp U => ?_)
                  subst hp
                  have U : kz_U D q s A [(rd, .inr (4, [.ref an, .ref au, .ref ai, .int (nI lv), .ref as_, .int (nI len), .int (nI at1), .ref hg])), (as_, .inl (q 1, 40, .inl (fun x_ => nI (src x_)))), (hg, .inr (3, [.ref ak, .ref al, .ref ah, .int (nI P1.length)])), (ak, .inl (q 0, 81, .inl g1)), (al, .inl (q 0, 81, .inl g2)), (ah, .inl (q 0, 81, .inl g3))] H locs := U.sub [4, 5, 0, 1, 2, 3] (by decide) rfl
                  refine kz_ifneB X kd_Rd_readClass_115 rfl (fun h115 => ?_) (fun h115 => ?_)
                  · refine lv_aload_n hx hb kd_Rd_readClass_120 rfl (lv_at hl 2 rfl) ?_
                    refine lv_dup hx hb kd_Rd_readClass_121 rfl ?_
                    refine kg_Rd_33 X U 0 rfl rfl kd_Rd_readClass_122 ?_
                    refine kz_ic X 1 kd_Rd_readClass_125 (by decide) ?_
                    refine kz_iadd X kd_Rd_readClass_126 ?_
                    refine kz_top (y := nI (at1 + 1)) rfl ?_
                    refine kp_Rd_33 X U 0 rfl (Nat.le_of_ble_eq_true rfl) kd_Rd_readClass_127 (fun H locs U => ?_)
                    have U : kz_U D q s A [(rd, .inr (4, [.ref an, .ref au, .ref ai, .int (nI lv), .ref as_, .int (nI len), .int (nI (at1 + 1)), .ref hg])), (as_, .inl (q 1, 40, .inl (fun x_ => nI (src x_)))), (hg, .inr (3, [.ref ak, .ref al, .ref ah, .int (nI P1.length)])), (ak, .inl (q 0, 81, .inl g1)), (al, .inl (q 0, 81, .inl g2)), (ah, .inl (q 0, 81, .inl g3))] H locs := U
                    refine lv_iload_n hx hb kd_Rd_readClass_130 rfl (lv_at hl 1 rfl) ?_
                    refine kz_ifeqB X kd_Rd_readClass_131 rfl (fun h131 => absurd h131 (by rw [h18]; decide)) (fun h131 => ?_)
                    refine lv_aload_n hx hb kd_Rd_readClass_134 rfl (lv_at hl 2 rfl) ?_
                    refine kg_Rd_39 X U 0 rfl rfl kd_Rd_readClass_135 ?_
                    refine kz_ic X 5 kd_Rd_readClass_138 (by decide) ?_
                    refine kz_ic X 0 kd_Rd_readClass_139 (by decide) ?_
                    refine kz_ic X 0 kd_Rd_readClass_140 (by decide) ?_
                    refine kz_cVv (av := [.int (nI 5), .int (nI 0), .int (nI 0)]) (rest := []) (wr := [(rd, .inr (4, [.ref an, .ref au, .ref ai, .int (nI lv), .ref as_, .int (nI len), .int (nI (at1 + 1)), .ref hg])), (as_, .inl (q 1, 40, .inl (fun x_ => nI (src x_))))]) X U hl.1 (cm_Pg_addP l D q hg ak al ah 5 0 1 (nI 0) (P1) g1 g2 g3 (pk_m1 0).symm hP1) (by decide) (by decide) ⟨by decide, by decide⟩ tb_250 tb_123 tb_124 2 rfl rfl tb_8 tb_125 kq_Pg_add [2, 3, 4, 5] [0, 1] (by decide) rfl rfl (by decide) (by decide) rfl (Nat.le_of_ble_eq_true rfl) kd_Rd_readClass_141 (fun z1 H locs hz1 U => ?_)
                    have U : kz_U D q s A [(rd, .inr (4, [.ref an, .ref au, .ref ai, .int (nI lv), .ref as_, .int (nI len), .int (nI (at1 + 1)), .ref hg])), (as_, .inl (q 1, 40, .inl (fun x_ => nI (src x_)))), (hg, .inr (3, [.ref ak, .ref al, .ref ah, .int (nI ((pg_add P1 (5, 0, 1)).length))])), (ak, .inl (q 0, 81, .inl z1.1)), (al, .inl (q 0, 81, .inl z1.2.1)), (ah, .inl (q 0, 81, .inl z1.2.2))] H locs := U
                    refine lv_aload_n hx hb kd_Rd_readClass_144 rfl (lv_at hl 2 rfl) ?_
                    refine kg_Rd_39 X U 0 rfl rfl kd_Rd_readClass_145 ?_
                    refine kz_ic X 1 kd_Rd_readClass_148 (by decide) ?_
                    refine kz_bp X 32 kd_Rd_readClass_149 (by decide) ?_
                    refine kz_bp X 126 kd_Rd_readClass_151 (by decide) ?_
                    refine kz_cVv (av := [.int (nI 1), .int (nI 32), .int (nI 126)]) (rest := []) (wr := [(rd, .inr (4, [.ref an, .ref au, .ref ai, .int (nI lv), .ref as_, .int (nI len), .int (nI (at1 + 1)), .ref hg])), (as_, .inl (q 1, 40, .inl (fun x_ => nI (src x_))))]) X U hl.1 (cm_Pg_addP l D q hg ak al ah 1 32 127 (nI 126) (pg_add P1 (5, 0, 1)) z1.1 z1.2.1 z1.2.2 (pk_m1 126).symm hz1) (by decide) (by decide) ⟨by decide, by decide⟩ tb_250 tb_123 tb_124 2 rfl rfl tb_8 tb_125 kq_Pg_add [2, 3, 4, 5] [0, 1] (by decide) rfl rfl (by decide) (by decide) rfl (Nat.le_of_ble_eq_true rfl) kd_Rd_readClass_153 (fun z2 H locs hz2 U => ?_)
                    have U : kz_U D q s A [(rd, .inr (4, [.ref an, .ref au, .ref ai, .int (nI lv), .ref as_, .int (nI len), .int (nI (at1 + 1)), .ref hg])), (as_, .inl (q 1, 40, .inl (fun x_ => nI (src x_)))), (hg, .inr (3, [.ref ak, .ref al, .ref ah, .int (nI ((pg_add (pg_add P1 (5, 0, 1)) (1, 32, 127)).length))])), (ak, .inl (q 0, 81, .inl z2.1)), (al, .inl (q 0, 81, .inl z2.2.1)), (ah, .inl (q 0, 81, .inl z2.2.2))] H locs := U
                    refine lv_aload_n hx hb kd_Rd_readClass_156 rfl (lv_at hl 2 rfl) ?_
                    refine kg_Rd_39 X U 0 rfl rfl kd_Rd_readClass_157 ?_
                    refine kz_ic X 4 kd_Rd_readClass_160 (by decide) ?_
                    refine kz_ic X 0 kd_Rd_readClass_161 (by decide) ?_
                    refine kz_ic X 0 kd_Rd_readClass_162 (by decide) ?_
                    refine kz_cVv (av := [.int (nI 4), .int (nI 0), .int (nI 0)]) (rest := []) (wr := [(rd, .inr (4, [.ref an, .ref au, .ref ai, .int (nI lv), .ref as_, .int (nI len), .int (nI (at1 + 1)), .ref hg])), (as_, .inl (q 1, 40, .inl (fun x_ => nI (src x_))))]) X U hl.1 (cm_Pg_addP l D q hg ak al ah 4 0 1 (nI 0) (pg_add (pg_add P1 (5, 0, 1)) (1, 32, 127)) z2.1 z2.2.1 z2.2.2 (pk_m1 0).symm hz2) (by decide) (by decide) ⟨by decide, by decide⟩ tb_250 tb_123 tb_124 2 rfl rfl tb_8 tb_125 kq_Pg_add [2, 3, 4, 5] [0, 1] (by decide) rfl rfl (by decide) (by decide) rfl (Nat.le_of_ble_eq_true rfl) kd_Rd_readClass_163 (fun z3 H locs hz3 U => ?_)
                    have U : kz_U D q s A [(rd, .inr (4, [.ref an, .ref au, .ref ai, .int (nI lv), .ref as_, .int (nI len), .int (nI (at1 + 1)), .ref hg])), (as_, .inl (q 1, 40, .inl (fun x_ => nI (src x_)))), (hg, .inr (3, [.ref ak, .ref al, .ref ah, .int (nI ((pg_add (pg_add (pg_add P1 (5, 0, 1)) (1, 32, 127)) (4, 0, 1)).length))])), (ak, .inl (q 0, 81, .inl z3.1)), (al, .inl (q 0, 81, .inl z3.2.1)), (ah, .inl (q 0, 81, .inl z3.2.2))] H locs := U
                    refine kz_ic X 1 kd_Rd_readClass_166 (by decide) ?_
                    refine kz_top (y := nB true) rfl ?_
                    exact kz_ez hQ hA X U (((at1 + 1, pg_add (pg_add (pg_add P1 (5, 0, 1)) (1, 32, 127)) (4, 0, 1)), z3)) rfl (by rw [hc2, hend, show rd_c3 src len true (true, at1, P1) = (true, at1 + 1, pg_add (pg_add (pg_add P1 (5, 0, 1)) (1, 32, 127)) (4, 0, 1)) from if_pos (of_decide_eq_true h115)]; exact ⟨rfl, rfl, hz3⟩) kd_Rd_readClass_167
                  · refine kz_ic X 0 kd_Rd_readClass_118 (by decide) ?_
                    refine kz_top (y := nB false) rfl ?_
                    exact kz_ez hQ hA X U (((at1, P1), (g1, g2, g3))) rfl (by rw [hc2, hend, show rd_c3 src len true (true, at1, P1) = (false, at1, P1) from if_neg (of_decide_eq_false h115)]; exact ⟨rfl, rfl, hP1⟩) kd_Rd_readClass_119
                · refine lv_aload_n hx hb kd_Rd_readClass_84 rfl (lv_at hl 2 rfl) ?_
                  refine kz_cVi (av := []) (rest := []) (wr := []) X U hl.1 (cm_Rd_readItem l D q rd an au ai as_ hg ak al ah at1 lv len src P1 g1 g2 g3 hlen hat1 hsrc hP1) (by decide) (by decide) ⟨by decide, by decide⟩ tb_306 tb_308 tb_s15 0 rfl rfl tb_9 tb_309 kq_Rd_readItem [0, 1, 2, 3, 4, 5] [] (by decide) rfl rfl (by decide) (by decide) rfl (Nat.le_of_ble_eq_true rfl) kd_Rd_readClass_85 (fun rv y H locs hy U => ?_)
                  obtain ⟨hy1, hy2, hy3⟩ := hy
                  subst hy1
                  have U : kz_U D q s A [(rd, .inr (4, [.ref an, .ref au, .ref ai, .int (nI lv), .ref as_, .int (nI len), .int (nI y.1.1), .ref hg])), (as_, .inl (q 1, 40, .inl (fun x_ => nI (src x_)))), (hg, .inr (3, [.ref ak, .ref al, .ref ah, .int (nI y.1.2.length)])), (ak, .inl (q 0, 81, .inl y.2.1)), (al, .inl (q 0, 81, .inl y.2.2.1)), (ah, .inl (q 0, 81, .inl y.2.2.2))] H locs := U
                  refine kz_ifneB X kd_Rd_readClass_88 rfl (fun h88 => ?_) (fun h88 => ?_)
                  · refine lv_aload_n hx hb kd_Rd_readClass_93 rfl (lv_at hl 2 rfl) ?_
                    refine kg_Rd_39 X U 0 rfl rfl kd_Rd_readClass_94 ?_
                    refine kz_ic X 3 kd_Rd_readClass_97 (by decide) ?_
                    refine kz_ic X 0 kd_Rd_readClass_98 (by decide) ?_
                    refine kz_ic X 0 kd_Rd_readClass_99 (by decide) ?_
                    refine kz_cVv (av := [.int (nI 3), .int (nI 0), .int (nI 0)]) (rest := []) (wr := [(rd, .inr (4, [.ref an, .ref au, .ref ai, .int (nI lv), .ref as_, .int (nI len), .int (nI y.1.1), .ref hg])), (as_, .inl (q 1, 40, .inl (fun x_ => nI (src x_))))]) X U hl.1 (cm_Pg_addP l D q hg ak al ah 3 0 1 (nI 0) (y.1.2) y.2.1 y.2.2.1 y.2.2.2 (pk_m1 0).symm hy3) (by decide) (by decide) ⟨by decide, by decide⟩ tb_250 tb_123 tb_124 2 rfl rfl tb_8 tb_125 kq_Pg_add [2, 3, 4, 5] [0, 1] (by decide) rfl rfl (by decide) (by decide) rfl (Nat.le_of_ble_eq_true rfl) kd_Rd_readClass_100 (fun z1 H locs hz1 U => ?_)
                    have U : kz_U D q s A [(rd, .inr (4, [.ref an, .ref au, .ref ai, .int (nI lv), .ref as_, .int (nI len), .int (nI y.1.1), .ref hg])), (as_, .inl (q 1, 40, .inl (fun x_ => nI (src x_)))), (hg, .inr (3, [.ref ak, .ref al, .ref ah, .int (nI ((pg_add y.1.2 (3, 0, 1)).length))])), (ak, .inl (q 0, 81, .inl z1.1)), (al, .inl (q 0, 81, .inl z1.2.1)), (ah, .inl (q 0, 81, .inl z1.2.2))] H locs := U
                    refine lv_iinc (k := 0) (v := nI (j + 1)) hx hb kd_Rd_readClass_103 hl rfl (nI_add j 1) (by decide) rfl (fun ls hl => ?_)
                    have hl : lv_has ls 3 [(2, .int (nI (j + 1))), (1, .int (nB (decide (at_ + 1 < len ∧ src (at_ + 1) = 94)))), (0, .ref rd)] := hl
                    refine lv_goto hx hb kd_Rd_readClass_106 rfl ?_
                    exact ih51 (j + 1) _ _ _ _ _ _ _ _ (by omega) (by omega) (by rw [hy2]; exact (rd_it_le hat1).1) hz1 (by rw [hms, show len - j = (len - (j + 1)) + 1 by omega, hy2]; exact (if_pos ⟨h67, h81⟩).trans (if_pos h88)) (lv_sub hl [0, 1, 2] rfl) U
                  · refine kz_ic X 0 kd_Rd_readClass_91 (by decide) ?_
                    refine kz_top (y := nB false) rfl ?_
                    exact kz_ez hQ hA X U y rfl (by rw [hc2, show rd_is src len len v.1.1 v.1.2 = rd_it src len at1 P1 from by rw [hms, show len - j = (len - j - 1) + 1 by omega]; exact (if_pos ⟨h67, h81⟩).trans (if_neg (by rw [h88]; decide)), show rd_c3 src len true (rd_it src len at1 P1) = rd_it src len at1 P1 from if_neg (by rw [h88]; decide)]; exact ⟨by rw [h88], hy2, hy3⟩) kd_Rd_readClass_92
        exact loop51 _ 0 v.1.1 v.1.2 v.2.1 v.2.2.1 v.2.2.2 _ _ _ (Nat.lt_succ_self _) (by omega) hv1l hv3 rfl (lv_sub hl [0, 1, 2] rfl) U
      · refine kz_ic X 0 kd_Rd_readClass_47 (by decide) ?_
        refine kz_top (y := nB false) rfl ?_
        exact kz_ez hQ hA X U v rfl (by rw [hcx, show rd_c1 src len true (at_ + 1 + 1) P = rd_it src len (at_ + 1 + 1) P from (if_neg (of_decide_eq_false h37)).trans (if_neg (by rw [h44]; decide))]; exact ⟨by rw [h44], hv2, hv3⟩) kd_Rd_readClass_48
