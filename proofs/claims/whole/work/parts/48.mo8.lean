set_option maxHeartbeats 4000000 in
set_option maxRecDepth 100000 in
theorem cm_Mo_first_p (l : Launch) (D : va_G) (q : Nat → ClassId) (ho mb mt mw mc mk m1 m2 ms mu mi mr mn mp mj me mh : Nat) (sz ln wn dp st_ im en : Nat) (lo_ : Int32) (ex ds : Bool) (p_ n : Nat) (sj ct kd on tw : Nat → Nat) (NL : List nd_N) (se es th : Nat → Int32) (hp_ : p_ ≤ 1) (hct : ct p_ = NL.length) (hN1 : 0 < NL.length) (htab : nd_tab (128 * p_) NL kd on tw se) (hn4 : n ≤ 4) : kz_Mi (S := (Nat → Nat) × ((Nat → Int32) × (Nat → Int32))) l ky_Mo_first kb_Mo_first 7 (some .int) 5 D q [.ref ho, .int (nI p_), .int (nI n)] [(ho, .inr (6, [.ref mb, .int (nI sz), .ref mt, .int (nI ln), .ref mw, .int (nI wn), .ref mc, .ref mk, .ref m1, .ref m2, .ref ms, .int (nI dp), .ref mu, .ref mi, .ref mr, .ref mn, .ref mp, .int (nI st_), .int lo_, .int (nI im), .int (nB ex), .ref mj, .int (nI en), .ref me, .ref mh, .int (nB ds)])), (mc, .inl (q 0, 3, .inl (fun x_ => nI (ct x_)))), (mk, .inl (q 0, 384, .inl (fun x_ => nI (kd x_)))), (m1, .inl (q 0, 384, .inl (fun x_ => nI (on x_)))), (m2, .inl (q 0, 384, .inl (fun x_ => nI (tw x_)))), (ms, .inl (q 0, 1152, .inl se)), (mj, .inl (q 0, 24, .inl (fun x_ => nI (sj x_)))), (me, .inl (q 0, 3200, .inl es)), (mh, .inl (q 0, 25, .inl th))] (fun r u => r = nI (sp_o (sp_fst (fun w => sp_cl ((nd_all NL).getD (NL.length - 1) dm_eps) (wd_b n w)) (3 ^ n) 0)) + (-1) ∧ ∀ w, sp_fst (fun w => sp_cl ((nd_all NL).getD (NL.length - 1) dm_eps) (wd_b n w)) (3 ^ n) 0 = some w → ∀ j, j < n → u.1 j = (wd_b n w).getD j 0) (fun u => [(ho, .inr (6, [.ref mb, .int (nI sz), .ref mt, .int (nI ln), .ref mw, .int (nI wn), .ref mc, .ref mk, .ref m1, .ref m2, .ref ms, .int (nI dp), .ref mu, .ref mi, .ref mr, .ref mn, .ref mp, .int (nI st_), .int lo_, .int (nI im), .int (nB ex), .ref mj, .int (nI n), .ref me, .ref mh, .int (nB ds)])), (mc, .inl (q 0, 3, .inl (fun x_ => nI (ct x_)))), (mk, .inl (q 0, 384, .inl (fun x_ => nI (kd x_)))), (m1, .inl (q 0, 384, .inl (fun x_ => nI (on x_)))), (m2, .inl (q 0, 384, .inl (fun x_ => nI (tw x_)))), (ms, .inl (q 0, 1152, .inl se)), (mj, .inl (q 0, 24, .inl (fun x_ => nI (u.1 x_)))), (me, .inl (q 0, 3200, .inl u.2.1)), (mh, .inl (q 0, 25, .inl u.2.2))]) := by
  intro sz_
  refine kz_go (by decide +kernel) (Nat.le_of_ble_eq_true rfl) ?_
  intro p e s m below meth c ls args A Q H locs hQ hA X U hl
  have hx := X.1
  have hb := X.2.1
  have hl : lv_has ls 7 [(0, .ref ho), (1, .int (nI p_)), (2, .int (nI n))] := hl
  have h3n : 3 ^ n ≤ 81 := Nat.pow_le_pow_right (by omega) hn4
  have join40 : ∀ (ls : Array Slot) (H : Heap) (locs : List Loc), lv_has ls 7 [(3, .int (nI (3 ^ n))), (0, .ref ho), (1, .int (nI p_)), (2, .int (nI n))] → kz_U D q s A [(ho, .inr (6, [.ref mb, .int (nI sz), .ref mt, .int (nI ln), .ref mw, .int (nI wn), .ref mc, .ref mk, .ref m1, .ref m2, .ref ms, .int (nI dp), .ref mu, .ref mi, .ref mr, .ref mn, .ref mp, .int (nI st_), .int lo_, .int (nI im), .int (nB ex), .ref mj, .int (nI en), .ref me, .ref mh, .int (nB ds)])), (mc, .inl (q 0, 3, .inl (fun x_ => nI (ct x_)))), (mk, .inl (q 0, 384, .inl (fun x_ => nI (kd x_)))), (m1, .inl (q 0, 384, .inl (fun x_ => nI (on x_)))), (m2, .inl (q 0, 384, .inl (fun x_ => nI (tw x_)))), (ms, .inl (q 0, 1152, .inl se)), (mj, .inl (q 0, 24, .inl (fun x_ => nI (sj x_)))), (me, .inl (q 0, 3200, .inl es)), (mh, .inl (q 0, 25, .inl th))] H locs → W p l e (kz_rm 5) s m args below meth c H locs 0 0 Q (F0 m 40 ls []) := by
    intro  ls H locs  hl U
    refine lv_aload_n hx hb kd_Mo_first_40 rfl (lv_at hl 1 rfl) ?_
    refine lv_iload_n hx hb kd_Mo_first_41 rfl (lv_at hl 3 rfl) ?_
    refine kp_Mo_142 X U 0 rfl (Nat.le_of_ble_eq_true rfl) kd_Mo_first_42 (fun H locs U => ?_)
    have U : kz_U D q s A [(ho, .inr (6, [.ref mb, .int (nI sz), .ref mt, .int (nI ln), .ref mw, .int (nI wn), .ref mc, .ref mk, .ref m1, .ref m2, .ref ms, .int (nI dp), .ref mu, .ref mi, .ref mr, .ref mn, .ref mp, .int (nI st_), .int lo_, .int (nI im), .int (nB ex), .ref mj, .int (nI n), .ref me, .ref mh, .int (nB ds)])), (mc, .inl (q 0, 3, .inl (fun x_ => nI (ct x_)))), (mk, .inl (q 0, 384, .inl (fun x_ => nI (kd x_)))), (m1, .inl (q 0, 384, .inl (fun x_ => nI (on x_)))), (m2, .inl (q 0, 384, .inl (fun x_ => nI (tw x_)))), (ms, .inl (q 0, 1152, .inl se)), (mj, .inl (q 0, 24, .inl (fun x_ => nI (sj x_)))), (me, .inl (q 0, 3200, .inl es)), (mh, .inl (q 0, 25, .inl th))] H locs := U
    refine kz_ic X 0 kd_Mo_first_45 (by decide) ?_
    refine lv_istore hx hb kd_Mo_first_46 hl (by decide) rfl (fun ls hl => ?_)
    have hl : lv_has ls 7 [(4, .int (nI 0)), (3, .int (nI (3 ^ n))), (0, .ref ho), (1, .int (nI p_)), (2, .int (nI n))] := hl
    have loop48 : ∀ (fuel : Nat) (w : Nat) (s2 : Nat → Nat) (e2 : Nat → Int32) (th2 : Nat → Int32) (ls : Array Slot) (H : Heap) (locs : List Loc), 3 ^ n + 1 - w < fuel → (w ≤ 3 ^ n) → (sp_fst (fun w => sp_cl ((nd_all NL).getD (NL.length - 1) dm_eps) (wd_b n w)) (3 ^ n) 0 = sp_fst (fun w => sp_cl ((nd_all NL).getD (NL.length - 1) dm_eps) (wd_b n w)) (3 ^ n - w) w) → lv_has ls 7 [(4, .int (nI w)), (3, .int (nI (3 ^ n))), (0, .ref ho), (1, .int (nI p_)), (2, .int (nI n))] → kz_U D q s A [(ho, .inr (6, [.ref mb, .int (nI sz), .ref mt, .int (nI ln), .ref mw, .int (nI wn), .ref mc, .ref mk, .ref m1, .ref m2, .ref ms, .int (nI dp), .ref mu, .ref mi, .ref mr, .ref mn, .ref mp, .int (nI st_), .int lo_, .int (nI im), .int (nB ex), .ref mj, .int (nI n), .ref me, .ref mh, .int (nB ds)])), (mc, .inl (q 0, 3, .inl (fun x_ => nI (ct x_)))), (mk, .inl (q 0, 384, .inl (fun x_ => nI (kd x_)))), (m1, .inl (q 0, 384, .inl (fun x_ => nI (on x_)))), (m2, .inl (q 0, 384, .inl (fun x_ => nI (tw x_)))), (ms, .inl (q 0, 1152, .inl se)), (mj, .inl (q 0, 24, .inl (fun x_ => nI (s2 x_)))), (me, .inl (q 0, 3200, .inl e2)), (mh, .inl (q 0, 25, .inl th2))] H locs → W p l e (kz_rm 5) s m args below meth c H locs 0 0 Q (F0 m 48 ls []) := by
      intro fuel
      induction fuel with
      | zero => intro w s2 e2 th2 ls H locs hme; exact absurd hme (Nat.not_lt_zero _)
      | succ fuel ih48 =>
        intro w s2 e2 th2 ls H locs hme hw hv hl U
        refine lv_iload hx hb kd_Mo_first_48 (lv_at hl 0 rfl) ?_
        refine lv_iload_n hx hb kd_Mo_first_50 rfl (lv_at hl 1 rfl) ?_
        refine kz_icge X (by first | omega | (have := h3n; omega)) (by first | omega | (have := h3n; omega)) kd_Mo_first_51 rfl (fun h51 => ?_) (fun h51 => ?_)
        · refine lv_iconst (v := (-1)) hx hb kd_Mo_first_132 (by decide) ?_
          exact kz_ei hQ hA X U ((s2, (e2, th2))) rfl (by have e0 : sp_fst (fun w => sp_cl ((nd_all NL).getD (NL.length - 1) dm_eps) (wd_b n w)) (3 ^ n) 0 = none := by rw [hv, show 3 ^ n - w = 0 by omega]; rfl
                                                          rw [e0]; exact ⟨by decide, fun w z => by cases z⟩) kd_Mo_first_133
        · refine lv_iload hx hb kd_Mo_first_54 (lv_at hl 0 rfl) ?_
          refine lv_istore hx hb kd_Mo_first_56 hl (by decide) rfl (fun ls hl => ?_)
          have hl : lv_has ls 7 [(5, .int (nI w)), (4, .int (nI w)), (3, .int (nI (3 ^ n))), (0, .ref ho), (1, .int (nI p_)), (2, .int (nI n))] := hl
          refine lv_iload_n hx hb kd_Mo_first_58 rfl (lv_at hl 5 rfl) ?_
          refine kz_ic X 1 kd_Mo_first_59 (by decide) ?_
          refine lv_isub hx hb kd_Mo_first_60 ?_
          refine kz_top (y := nI n + (-1)) (sb_m1' n).symm ?_
          refine lv_istore hx hb kd_Mo_first_61 hl (by decide) rfl (fun ls hl => ?_)
          have hl : lv_has ls 7 [(6, .int (nI n + (-1))), (5, .int (nI w)), (4, .int (nI w)), (3, .int (nI (3 ^ n))), (0, .ref ho), (1, .int (nI p_)), (2, .int (nI n))] := hl
          have loop63 : ∀ (fuel : Nat) (m_ : Nat) (rs : Nat) (s3 : Nat → Nat) (ls : Array Slot) (H : Heap) (locs : List Loc), m_ < fuel → (m_ ≤ n) → (rs ≤ w) → (∀ j, m_ ≤ j → j < n → s3 j = (wd_b n w).getD j 0) → (∀ j, j < m_ → (wd_b n w).getD j 0 = (wd_b m_ rs).getD j 0) → lv_has ls 7 [(6, .int (nI m_ + (-1))), (5, .int (nI rs)), (4, .int (nI w)), (3, .int (nI (3 ^ n))), (0, .ref ho), (1, .int (nI p_)), (2, .int (nI n))] → kz_U D q s A [(ho, .inr (6, [.ref mb, .int (nI sz), .ref mt, .int (nI ln), .ref mw, .int (nI wn), .ref mc, .ref mk, .ref m1, .ref m2, .ref ms, .int (nI dp), .ref mu, .ref mi, .ref mr, .ref mn, .ref mp, .int (nI st_), .int lo_, .int (nI im), .int (nB ex), .ref mj, .int (nI n), .ref me, .ref mh, .int (nB ds)])), (mc, .inl (q 0, 3, .inl (fun x_ => nI (ct x_)))), (mk, .inl (q 0, 384, .inl (fun x_ => nI (kd x_)))), (m1, .inl (q 0, 384, .inl (fun x_ => nI (on x_)))), (m2, .inl (q 0, 384, .inl (fun x_ => nI (tw x_)))), (ms, .inl (q 0, 1152, .inl se)), (mj, .inl (q 0, 24, .inl (fun x_ => nI (s3 x_)))), (me, .inl (q 0, 3200, .inl e2)), (mh, .inl (q 0, 25, .inl th2))] H locs → W p l e (kz_rm 5) s m args below meth c H locs 0 0 Q (F0 m 63 ls []) := by
            intro fuel
            induction fuel with
            | zero => intro m_ rs s3 ls H locs hme; exact absurd hme (Nat.not_lt_zero _)
            | succ fuel ih63 =>
              intro m_ rs s3 ls H locs hme hm_ hrs hs3 hpre hl U
              rcases m_ with _ | m_
              · have hsub : ∀ j, j < n → s3 j = (wd_b n w).getD j 0 := fun j hj => hs3 j (Nat.zero_le _) hj
                have hcut : dm_cut s3 0 n = wd_b n w := wd_b_cut hsub
                have htc3 : ∀ j, j < n → 32 ≤ s3 j ∧ s3 j < 128 := fun j hj => by rw [hsub j hj]; have := wd_b_in n w j hj; omega
                refine lv_iload hx hb kd_Mo_first_63 (lv_at hl 0 rfl) ?_
                refine lv_if_lt hx hb kd_Mo_first_65 rfl (fun h65 => ?_) (fun h65 => absurd h65 (fun z => z (by decide)))
                refine lv_iload_n hx hb kd_Mo_first_94 rfl (lv_at hl 5 rfl) ?_
                refine kz_ic X 2 kd_Mo_first_95 (by decide) ?_
                refine kz_icge X (by first | omega | (have := h3n; omega)) (by first | omega | (have := h3n; omega)) kd_Mo_first_96 rfl (fun h96 => absurd h96 (by omega)) (fun h96 => ?_)
                refine lv_aload_n hx hb kd_Mo_first_99 rfl (lv_at hl 4 rfl) ?_
                refine lv_iload_n hx hb kd_Mo_first_100 rfl (lv_at hl 5 rfl) ?_
                refine kz_cVi (av := [.int (nI p_)]) (rest := []) (wr := []) X U hl.1 (cm_Mo_fits l D q ho mb mt mw mc mk m1 m2 ms mu mi mr mn mp mj me mh sz ln wn dp st_ im n lo_ ex ds p_ s3 ct kd on tw NL se e2 th2 hp_ (by omega) hct hN1 htab htc3) (by decide) (by decide) ⟨by decide, by decide⟩ tb_653 tb_655 tb_s45 0 rfl rfl tb_11 tb_656 kq_Mo_fits [0, 1, 2, 3, 4, 5, 6, 7, 8] [] (by decide) rfl rfl (by decide) (by decide) rfl (Nat.le_of_ble_eq_true rfl) kd_Mo_first_101 (fun rv u H locs hp U => ?_)
                subst hp
                rw [hcut]
                have U : kz_U D q s A [(ho, .inr (6, [.ref mb, .int (nI sz), .ref mt, .int (nI ln), .ref mw, .int (nI wn), .ref mc, .ref mk, .ref m1, .ref m2, .ref ms, .int (nI dp), .ref mu, .ref mi, .ref mr, .ref mn, .ref mp, .int (nI st_), .int lo_, .int (nI im), .int (nB ex), .ref mj, .int (nI n), .ref me, .ref mh, .int (nB ds)])), (mc, .inl (q 0, 3, .inl (fun x_ => nI (ct x_)))), (mk, .inl (q 0, 384, .inl (fun x_ => nI (kd x_)))), (m1, .inl (q 0, 384, .inl (fun x_ => nI (on x_)))), (m2, .inl (q 0, 384, .inl (fun x_ => nI (tw x_)))), (ms, .inl (q 0, 1152, .inl se)), (mj, .inl (q 0, 24, .inl (fun x_ => nI (s3 x_)))), (me, .inl (q 0, 3200, .inl u.1)), (mh, .inl (q 0, 25, .inl u.2))] H locs := U
                refine kz_ifeqB X kd_Mo_first_104 rfl (fun h104 => ?_) (fun h104 => ?_)
                · refine lv_iinc (k := 2) (v := nI (w + 1)) hx hb kd_Mo_first_126 hl rfl (nI_add w 1) (by decide) rfl (fun ls hl => ?_)
                  have hl : lv_has ls 7 [(4, .int (nI (w + 1))), (6, .int (nI 0 + (-1))), (5, .int (nI rs)), (3, .int (nI (3 ^ n))), (0, .ref ho), (1, .int (nI p_)), (2, .int (nI n))] := hl
                  refine lv_goto hx hb kd_Mo_first_129 rfl ?_
                  exact ih48 (w + 1) _ _ _ _ _ _ (by omega) (by omega) (by rw [hv, show 3 ^ n - w = (3 ^ n - (w + 1)) + 1 by omega]; exact if_neg (by show ¬ sp_cl ((nd_all NL).getD (NL.length - 1) dm_eps) (wd_b n w) = true; rw [h104]; decide)) (lv_sub hl [0, 3, 4, 5, 6] rfl) U
                · refine lv_goto hx hb kd_Mo_first_107 rfl ?_
                  refine lv_iload hx hb kd_Mo_first_123 (lv_at hl 2 rfl) ?_
                  exact kz_ei hQ hA X U ((s3, (u.1, u.2))) rfl (by have e0 : sp_fst (fun w => sp_cl ((nd_all NL).getD (NL.length - 1) dm_eps) (wd_b n w)) (3 ^ n) 0 = some w := by rw [hv, show 3 ^ n - w = (3 ^ n - w - 1) + 1 by omega]; exact if_pos h104
                                                                   rw [e0]; exact ⟨(pk_m1 w).symm, fun w2 z => by injection z with z; rw [← z]; exact hsub⟩) kd_Mo_first_125
              · rw [pk_m1] at hl
                refine lv_iload hx hb kd_Mo_first_63 (lv_at hl 0 rfl) ?_
                refine kz_nlt X (by first | omega | (have := h3n; omega)) kd_Mo_first_65 ?_
                refine lv_aload_n hx hb kd_Mo_first_68 rfl (lv_at hl 4 rfl) ?_
                refine kg_Mo_49 X U 0 rfl rfl kd_Mo_first_69 ?_
                refine lv_iload hx hb kd_Mo_first_72 (lv_at hl 0 rfl) ?_
                refine kz_bp X 97 kd_Mo_first_74 (by decide) ?_
                refine lv_iload hx hb kd_Mo_first_76 (lv_at hl 1 rfl) ?_
                refine kz_ic X 3 kd_Mo_first_78 (by decide) ?_
                refine kz_irem X (by first | omega | (have := h3n; omega)) (by omega) (by omega) kd_Mo_first_79 ?_
                refine kz_iadd X kd_Mo_first_80 ?_
                refine kz_top (y := nI (97 + (rs % 3))) rfl ?_
                refine kz_iast (k := m_) X U 6 rfl (by omega) (by omega) kd_Mo_first_81 (fun H locs U => ?_)
                rw [kz_updN] at U
                have U : kz_U D q s A [(ho, .inr (6, [.ref mb, .int (nI sz), .ref mt, .int (nI ln), .ref mw, .int (nI wn), .ref mc, .ref mk, .ref m1, .ref m2, .ref ms, .int (nI dp), .ref mu, .ref mi, .ref mr, .ref mn, .ref mp, .int (nI st_), .int lo_, .int (nI im), .int (nB ex), .ref mj, .int (nI n), .ref me, .ref mh, .int (nB ds)])), (mc, .inl (q 0, 3, .inl (fun x_ => nI (ct x_)))), (mk, .inl (q 0, 384, .inl (fun x_ => nI (kd x_)))), (m1, .inl (q 0, 384, .inl (fun x_ => nI (on x_)))), (m2, .inl (q 0, 384, .inl (fun x_ => nI (tw x_)))), (ms, .inl (q 0, 1152, .inl se)), (mj, .inl (q 0, 24, .inl (fun x_ => nI ((va_up s3 m_ (97 + (rs % 3))) x_)))), (me, .inl (q 0, 3200, .inl e2)), (mh, .inl (q 0, 25, .inl th2))] H locs := U
                refine lv_iload hx hb kd_Mo_first_82 (lv_at hl 1 rfl) ?_
                refine kz_ic X 3 kd_Mo_first_84 (by decide) ?_
                refine kz_idiv X (by first | omega | (have := h3n; omega)) (by omega) (by omega) kd_Mo_first_85 ?_
                refine lv_istore hx hb kd_Mo_first_86 hl (by decide) rfl (fun ls hl => ?_)
                have hl : lv_has ls 7 [(5, .int (nI (rs / 3))), (6, .int (nI m_)), (4, .int (nI w)), (3, .int (nI (3 ^ n))), (0, .ref ho), (1, .int (nI p_)), (2, .int (nI n))] := hl
                refine lv_iinc (k := 1) (v := nI m_ + (-1)) hx hb kd_Mo_first_88 hl rfl rfl (by decide) rfl (fun ls hl => ?_)
                have hl : lv_has ls 7 [(6, .int (nI m_ + (-1))), (5, .int (nI (rs / 3))), (4, .int (nI w)), (3, .int (nI (3 ^ n))), (0, .ref ho), (1, .int (nI p_)), (2, .int (nI n))] := hl
                refine lv_goto hx hb kd_Mo_first_91 rfl ?_
                exact ih63 m_ (rs / 3) _ _ _ _ (by omega) (by omega) (by omega) (fun j h1 h2 => if e : j = m_ then (by rw [e, va_up_eq', hpre m_ (by omega), wd_b_last]) else (by rw [va_up_ne' e]; exact hs3 j (by omega) h2)) (fun j hj => by rw [hpre j (by omega), wd_b_lt hj]) (lv_sub hl [0, 1, 2, 3, 4, 5, 6] rfl) U
          exact loop63 _ n w s2 _ _ _ (Nat.lt_succ_self _) (Nat.le_refl _) (Nat.le_refl _) (fun j h1 h2 => absurd h1 (by omega)) (fun _ _ => rfl) (lv_sub hl [0, 1, 2, 3, 4, 5, 6] rfl) U
    exact loop48 _ 0 sj es th _ _ _ (Nat.lt_succ_self _) (Nat.zero_le _) rfl (lv_sub hl [0, 1, 2, 3, 4] rfl) U
  refine lv_iload_n hx hb kd_Mo_first_0 rfl (lv_at hl 2 rfl) ?_
  refine kz_nne X (by first | omega | (have := h3n; omega)) kd_Mo_first_1 rfl (fun h1 => ?_) (fun h1 => ?_)
  · refine lv_iload_n hx hb kd_Mo_first_8 rfl (lv_at hl 2 rfl) ?_
    refine kz_ic X 1 kd_Mo_first_9 (by decide) ?_
    refine kz_icne X (by first | omega | (have := h3n; omega)) (by first | omega | (have := h3n; omega)) kd_Mo_first_10 rfl (fun h10 => ?_) (fun h10 => ?_)
    · refine lv_iload_n hx hb kd_Mo_first_17 rfl (lv_at hl 2 rfl) ?_
      refine kz_ic X 2 kd_Mo_first_18 (by decide) ?_
      refine kz_icne X (by first | omega | (have := h3n; omega)) (by first | omega | (have := h3n; omega)) kd_Mo_first_19 rfl (fun h19 => ?_) (fun h19 => ?_)
      · refine lv_iload_n hx hb kd_Mo_first_27 rfl (lv_at hl 2 rfl) ?_
        refine kz_ic X 3 kd_Mo_first_28 (by decide) ?_
        refine kz_icne X (by first | omega | (have := h3n; omega)) (by first | omega | (have := h3n; omega)) kd_Mo_first_29 rfl (fun h29 => ?_) (fun h29 => ?_)
        · refine kz_bp X 81 kd_Mo_first_37 (by decide) ?_
          refine kz_top (y := nI (3 ^ n)) (by rw [show n = 4 by omega]) ?_
          refine lv_istore_n hx hb kd_Mo_first_39 rfl hl (by decide) rfl (fun ls hl => ?_)
          have hl : lv_has ls 7 [(3, .int (nI (3 ^ n))), (0, .ref ho), (1, .int (nI p_)), (2, .int (nI n))] := hl
          exact join40 _ _ _ (lv_sub hl [0, 1, 2, 3] rfl) U
        · refine kz_bp X 27 kd_Mo_first_32 (by decide) ?_
          refine lv_goto hx hb kd_Mo_first_34 rfl ?_
          refine kz_top (y := nI (3 ^ n)) (by rw [show n = 3 by omega]) ?_
          refine lv_istore_n hx hb kd_Mo_first_39 rfl hl (by decide) rfl (fun ls hl => ?_)
          have hl : lv_has ls 7 [(3, .int (nI (3 ^ n))), (0, .ref ho), (1, .int (nI p_)), (2, .int (nI n))] := hl
          exact join40 _ _ _ (lv_sub hl [0, 1, 2, 3] rfl) U
      · refine kz_bp X 9 kd_Mo_first_22 (by decide) ?_
        refine lv_goto hx hb kd_Mo_first_24 rfl ?_
        refine kz_top (y := nI (3 ^ n)) (by rw [show n = 2 by omega]) ?_
        refine lv_istore_n hx hb kd_Mo_first_39 rfl hl (by decide) rfl (fun ls hl => ?_)
        have hl : lv_has ls 7 [(3, .int (nI (3 ^ n))), (0, .ref ho), (1, .int (nI p_)), (2, .int (nI n))] := hl
        exact join40 _ _ _ (lv_sub hl [0, 1, 2, 3] rfl) U
    · refine kz_ic X 3 kd_Mo_first_13 (by decide) ?_
      refine lv_goto hx hb kd_Mo_first_14 rfl ?_
      refine kz_top (y := nI (3 ^ n)) (by rw [show n = 1 by omega]) ?_
      refine lv_istore_n hx hb kd_Mo_first_39 rfl hl (by decide) rfl (fun ls hl => ?_)
      have hl : lv_has ls 7 [(3, .int (nI (3 ^ n))), (0, .ref ho), (1, .int (nI p_)), (2, .int (nI n))] := hl
      exact join40 _ _ _ (lv_sub hl [0, 1, 2, 3] rfl) U
  · refine kz_ic X 1 kd_Mo_first_4 (by decide) ?_
    refine lv_goto hx hb kd_Mo_first_5 rfl ?_
    refine kz_top (y := nI (3 ^ n)) (by rw [show n = 0 by omega]) ?_
    refine lv_istore_n hx hb kd_Mo_first_39 rfl hl (by decide) rfl (fun ls hl => ?_)
    have hl : lv_has ls 7 [(3, .int (nI (3 ^ n))), (0, .ref ho), (1, .int (nI p_)), (2, .int (nI n))] := hl
    exact join40 _ _ _ (lv_sub hl [0, 1, 2, 3] rfl) U

set_option maxHeartbeats 4000000 in
set_option maxRecDepth 100000 in
theorem cm_Mo_first_d (l : Launch) (D : va_G) (q : Nat → ClassId) (ho mb mt mw mc mk m1 m2 ms mu mi mr mn mp mj me mh : Nat) (sz ln wn dp st_ im en : Nat) (lo_ : Int32) (ex ds : Bool) (n : Nat) (sj ct kd on tw : Nat → Nat) (NL0 NL1 : List nd_N) (se es th : Nat → Int32) (hct0 : ct 0 = NL0.length) (hct1 : ct 1 = NL1.length) (hN0 : 0 < NL0.length) (hN1 : 0 < NL1.length) (htab0 : nd_tab 0 NL0 kd on tw se) (htab1 : nd_tab 128 NL1 kd on tw se) (hn4 : n ≤ 4) : kz_Mi (S := (Nat → Nat) × ((Nat → Int32) × (Nat → Int32))) l ky_Mo_first kb_Mo_first 7 (some .int) 5 D q [.ref ho, .int (nI 2), .int (nI n)] [(ho, .inr (6, [.ref mb, .int (nI sz), .ref mt, .int (nI ln), .ref mw, .int (nI wn), .ref mc, .ref mk, .ref m1, .ref m2, .ref ms, .int (nI dp), .ref mu, .ref mi, .ref mr, .ref mn, .ref mp, .int (nI st_), .int lo_, .int (nI im), .int (nB ex), .ref mj, .int (nI en), .ref me, .ref mh, .int (nB ds)])), (mc, .inl (q 0, 3, .inl (fun x_ => nI (ct x_)))), (mk, .inl (q 0, 384, .inl (fun x_ => nI (kd x_)))), (m1, .inl (q 0, 384, .inl (fun x_ => nI (on x_)))), (m2, .inl (q 0, 384, .inl (fun x_ => nI (tw x_)))), (ms, .inl (q 0, 1152, .inl se)), (mj, .inl (q 0, 24, .inl (fun x_ => nI (sj x_)))), (me, .inl (q 0, 3200, .inl es)), (mh, .inl (q 0, 25, .inl th))] (fun r u => r = nI (sp_o (sp_fst (fun w => sp_cl ((nd_all NL0).getD (NL0.length - 1) dm_eps) (wd_b n w) != sp_cl ((nd_all NL1).getD (NL1.length - 1) dm_eps) (wd_b n w)) (3 ^ n) 0)) + (-1) ∧ ∀ w, sp_fst (fun w => sp_cl ((nd_all NL0).getD (NL0.length - 1) dm_eps) (wd_b n w) != sp_cl ((nd_all NL1).getD (NL1.length - 1) dm_eps) (wd_b n w)) (3 ^ n) 0 = some w → ∀ j, j < n → u.1 j = (wd_b n w).getD j 0) (fun u => [(ho, .inr (6, [.ref mb, .int (nI sz), .ref mt, .int (nI ln), .ref mw, .int (nI wn), .ref mc, .ref mk, .ref m1, .ref m2, .ref ms, .int (nI dp), .ref mu, .ref mi, .ref mr, .ref mn, .ref mp, .int (nI st_), .int lo_, .int (nI im), .int (nB ex), .ref mj, .int (nI n), .ref me, .ref mh, .int (nB ds)])), (mc, .inl (q 0, 3, .inl (fun x_ => nI (ct x_)))), (mk, .inl (q 0, 384, .inl (fun x_ => nI (kd x_)))), (m1, .inl (q 0, 384, .inl (fun x_ => nI (on x_)))), (m2, .inl (q 0, 384, .inl (fun x_ => nI (tw x_)))), (ms, .inl (q 0, 1152, .inl se)), (mj, .inl (q 0, 24, .inl (fun x_ => nI (u.1 x_)))), (me, .inl (q 0, 3200, .inl u.2.1)), (mh, .inl (q 0, 25, .inl u.2.2))]) := by
  intro sz_
  refine kz_go (by decide +kernel) (Nat.le_of_ble_eq_true rfl) ?_
  intro p e s m below meth c ls args A Q H locs hQ hA X U hl
  have hx := X.1
  have hb := X.2.1
  have hl : lv_has ls 7 [(0, .ref ho), (1, .int (nI 2)), (2, .int (nI n))] := hl
  have h3n : 3 ^ n ≤ 81 := Nat.pow_le_pow_right (by omega) hn4
  have join40 : ∀ (ls : Array Slot) (H : Heap) (locs : List Loc), lv_has ls 7 [(3, .int (nI (3 ^ n))), (0, .ref ho), (1, .int (nI 2)), (2, .int (nI n))] → kz_U D q s A [(ho, .inr (6, [.ref mb, .int (nI sz), .ref mt, .int (nI ln), .ref mw, .int (nI wn), .ref mc, .ref mk, .ref m1, .ref m2, .ref ms, .int (nI dp), .ref mu, .ref mi, .ref mr, .ref mn, .ref mp, .int (nI st_), .int lo_, .int (nI im), .int (nB ex), .ref mj, .int (nI en), .ref me, .ref mh, .int (nB ds)])), (mc, .inl (q 0, 3, .inl (fun x_ => nI (ct x_)))), (mk, .inl (q 0, 384, .inl (fun x_ => nI (kd x_)))), (m1, .inl (q 0, 384, .inl (fun x_ => nI (on x_)))), (m2, .inl (q 0, 384, .inl (fun x_ => nI (tw x_)))), (ms, .inl (q 0, 1152, .inl se)), (mj, .inl (q 0, 24, .inl (fun x_ => nI (sj x_)))), (me, .inl (q 0, 3200, .inl es)), (mh, .inl (q 0, 25, .inl th))] H locs → W p l e (kz_rm 5) s m args below meth c H locs 0 0 Q (F0 m 40 ls []) := by
    intro  ls H locs  hl U
    refine lv_aload_n hx hb kd_Mo_first_40 rfl (lv_at hl 1 rfl) ?_
    refine lv_iload_n hx hb kd_Mo_first_41 rfl (lv_at hl 3 rfl) ?_
    refine kp_Mo_142 X U 0 rfl (Nat.le_of_ble_eq_true rfl) kd_Mo_first_42 (fun H locs U => ?_)
    have U : kz_U D q s A [(ho, .inr (6, [.ref mb, .int (nI sz), .ref mt, .int (nI ln), .ref mw, .int (nI wn), .ref mc, .ref mk, .ref m1, .ref m2, .ref ms, .int (nI dp), .ref mu, .ref mi, .ref mr, .ref mn, .ref mp, .int (nI st_), .int lo_, .int (nI im), .int (nB ex), .ref mj, .int (nI n), .ref me, .ref mh, .int (nB ds)])), (mc, .inl (q 0, 3, .inl (fun x_ => nI (ct x_)))), (mk, .inl (q 0, 384, .inl (fun x_ => nI (kd x_)))), (m1, .inl (q 0, 384, .inl (fun x_ => nI (on x_)))), (m2, .inl (q 0, 384, .inl (fun x_ => nI (tw x_)))), (ms, .inl (q 0, 1152, .inl se)), (mj, .inl (q 0, 24, .inl (fun x_ => nI (sj x_)))), (me, .inl (q 0, 3200, .inl es)), (mh, .inl (q 0, 25, .inl th))] H locs := U
    refine kz_ic X 0 kd_Mo_first_45 (by decide) ?_
    refine lv_istore hx hb kd_Mo_first_46 hl (by decide) rfl (fun ls hl => ?_)
    have hl : lv_has ls 7 [(4, .int (nI 0)), (3, .int (nI (3 ^ n))), (0, .ref ho), (1, .int (nI 2)), (2, .int (nI n))] := hl
    have loop48 : ∀ (fuel : Nat) (w : Nat) (s2 : Nat → Nat) (e2 : Nat → Int32) (th2 : Nat → Int32) (ls : Array Slot) (H : Heap) (locs : List Loc), 3 ^ n + 1 - w < fuel → (w ≤ 3 ^ n) → (sp_fst (fun w => sp_cl ((nd_all NL0).getD (NL0.length - 1) dm_eps) (wd_b n w) != sp_cl ((nd_all NL1).getD (NL1.length - 1) dm_eps) (wd_b n w)) (3 ^ n) 0 = sp_fst (fun w => sp_cl ((nd_all NL0).getD (NL0.length - 1) dm_eps) (wd_b n w) != sp_cl ((nd_all NL1).getD (NL1.length - 1) dm_eps) (wd_b n w)) (3 ^ n - w) w) → lv_has ls 7 [(4, .int (nI w)), (3, .int (nI (3 ^ n))), (0, .ref ho), (1, .int (nI 2)), (2, .int (nI n))] → kz_U D q s A [(ho, .inr (6, [.ref mb, .int (nI sz), .ref mt, .int (nI ln), .ref mw, .int (nI wn), .ref mc, .ref mk, .ref m1, .ref m2, .ref ms, .int (nI dp), .ref mu, .ref mi, .ref mr, .ref mn, .ref mp, .int (nI st_), .int lo_, .int (nI im), .int (nB ex), .ref mj, .int (nI n), .ref me, .ref mh, .int (nB ds)])), (mc, .inl (q 0, 3, .inl (fun x_ => nI (ct x_)))), (mk, .inl (q 0, 384, .inl (fun x_ => nI (kd x_)))), (m1, .inl (q 0, 384, .inl (fun x_ => nI (on x_)))), (m2, .inl (q 0, 384, .inl (fun x_ => nI (tw x_)))), (ms, .inl (q 0, 1152, .inl se)), (mj, .inl (q 0, 24, .inl (fun x_ => nI (s2 x_)))), (me, .inl (q 0, 3200, .inl e2)), (mh, .inl (q 0, 25, .inl th2))] H locs → W p l e (kz_rm 5) s m args below meth c H locs 0 0 Q (F0 m 48 ls []) := by
      intro fuel
      induction fuel with
      | zero => intro w s2 e2 th2 ls H locs hme; exact absurd hme (Nat.not_lt_zero _)
      | succ fuel ih48 =>
        intro w s2 e2 th2 ls H locs hme hw hv hl U
        refine lv_iload hx hb kd_Mo_first_48 (lv_at hl 0 rfl) ?_
        refine lv_iload_n hx hb kd_Mo_first_50 rfl (lv_at hl 1 rfl) ?_
        refine kz_icge X (by first | omega | (have := h3n; omega)) (by first | omega | (have := h3n; omega)) kd_Mo_first_51 rfl (fun h51 => ?_) (fun h51 => ?_)
        · refine lv_iconst (v := (-1)) hx hb kd_Mo_first_132 (by decide) ?_
          exact kz_ei hQ hA X U ((s2, (e2, th2))) rfl (by have e0 : sp_fst (fun w => sp_cl ((nd_all NL0).getD (NL0.length - 1) dm_eps) (wd_b n w) != sp_cl ((nd_all NL1).getD (NL1.length - 1) dm_eps) (wd_b n w)) (3 ^ n) 0 = none := by rw [hv, show 3 ^ n - w = 0 by omega]; rfl
                                                          rw [e0]; exact ⟨by decide, fun w z => by cases z⟩) kd_Mo_first_133
        · refine lv_iload hx hb kd_Mo_first_54 (lv_at hl 0 rfl) ?_
          refine lv_istore hx hb kd_Mo_first_56 hl (by decide) rfl (fun ls hl => ?_)
          have hl : lv_has ls 7 [(5, .int (nI w)), (4, .int (nI w)), (3, .int (nI (3 ^ n))), (0, .ref ho), (1, .int (nI 2)), (2, .int (nI n))] := hl
          refine lv_iload_n hx hb kd_Mo_first_58 rfl (lv_at hl 5 rfl) ?_
          refine kz_ic X 1 kd_Mo_first_59 (by decide) ?_
          refine lv_isub hx hb kd_Mo_first_60 ?_
          refine kz_top (y := nI n + (-1)) (sb_m1' n).symm ?_
          refine lv_istore hx hb kd_Mo_first_61 hl (by decide) rfl (fun ls hl => ?_)
          have hl : lv_has ls 7 [(6, .int (nI n + (-1))), (5, .int (nI w)), (4, .int (nI w)), (3, .int (nI (3 ^ n))), (0, .ref ho), (1, .int (nI 2)), (2, .int (nI n))] := hl
          have loop63 : ∀ (fuel : Nat) (m_ : Nat) (rs : Nat) (s3 : Nat → Nat) (ls : Array Slot) (H : Heap) (locs : List Loc), m_ < fuel → (m_ ≤ n) → (rs ≤ w) → (∀ j, m_ ≤ j → j < n → s3 j = (wd_b n w).getD j 0) → (∀ j, j < m_ → (wd_b n w).getD j 0 = (wd_b m_ rs).getD j 0) → lv_has ls 7 [(6, .int (nI m_ + (-1))), (5, .int (nI rs)), (4, .int (nI w)), (3, .int (nI (3 ^ n))), (0, .ref ho), (1, .int (nI 2)), (2, .int (nI n))] → kz_U D q s A [(ho, .inr (6, [.ref mb, .int (nI sz), .ref mt, .int (nI ln), .ref mw, .int (nI wn), .ref mc, .ref mk, .ref m1, .ref m2, .ref ms, .int (nI dp), .ref mu, .ref mi, .ref mr, .ref mn, .ref mp, .int (nI st_), .int lo_, .int (nI im), .int (nB ex), .ref mj, .int (nI n), .ref me, .ref mh, .int (nB ds)])), (mc, .inl (q 0, 3, .inl (fun x_ => nI (ct x_)))), (mk, .inl (q 0, 384, .inl (fun x_ => nI (kd x_)))), (m1, .inl (q 0, 384, .inl (fun x_ => nI (on x_)))), (m2, .inl (q 0, 384, .inl (fun x_ => nI (tw x_)))), (ms, .inl (q 0, 1152, .inl se)), (mj, .inl (q 0, 24, .inl (fun x_ => nI (s3 x_)))), (me, .inl (q 0, 3200, .inl e2)), (mh, .inl (q 0, 25, .inl th2))] H locs → W p l e (kz_rm 5) s m args below meth c H locs 0 0 Q (F0 m 63 ls []) := by
            intro fuel
            induction fuel with
            | zero => intro m_ rs s3 ls H locs hme; exact absurd hme (Nat.not_lt_zero _)
            | succ fuel ih63 =>
              intro m_ rs s3 ls H locs hme hm_ hrs hs3 hpre hl U
              rcases m_ with _ | m_
              · have hsub : ∀ j, j < n → s3 j = (wd_b n w).getD j 0 := fun j hj => hs3 j (Nat.zero_le _) hj
                have hcut : dm_cut s3 0 n = wd_b n w := wd_b_cut hsub
                have htc3 : ∀ j, j < n → 32 ≤ s3 j ∧ s3 j < 128 := fun j hj => by rw [hsub j hj]; have := wd_b_in n w j hj; omega
                refine lv_iload hx hb kd_Mo_first_63 (lv_at hl 0 rfl) ?_
                refine lv_if_lt hx hb kd_Mo_first_65 rfl (fun h65 => ?_) (fun h65 => absurd h65 (fun z => z (by decide)))
                refine lv_iload_n hx hb kd_Mo_first_94 rfl (lv_at hl 5 rfl) ?_
                refine kz_ic X 2 kd_Mo_first_95 (by decide) ?_
                refine kz_icge X (by first | omega | (have := h3n; omega)) (by first | omega | (have := h3n; omega)) kd_Mo_first_96 rfl (fun h96 => ?_) (fun h96 => absurd h96 (by omega))
                refine lv_aload_n hx hb kd_Mo_first_110 rfl (lv_at hl 4 rfl) ?_
                refine kz_ic X 0 kd_Mo_first_111 (by decide) ?_
                refine kz_cVi (av := [.int (nI 0)]) (rest := []) (wr := []) X U hl.1 (cm_Mo_fits l D q ho mb mt mw mc mk m1 m2 ms mu mi mr mn mp mj me mh sz ln wn dp st_ im n lo_ ex ds 0 s3 ct kd on tw NL0 se e2 th2 (by omega) (by omega) hct0 hN0 htab0 htc3) (by decide) (by decide) ⟨by decide, by decide⟩ tb_653 tb_655 tb_s45 0 rfl rfl tb_11 tb_656 kq_Mo_fits [0, 1, 2, 3, 4, 5, 6, 7, 8] [] (by decide) rfl rfl (by decide) (by decide) rfl (Nat.le_of_ble_eq_true rfl) kd_Mo_first_112 (fun rv u H locs hp U => ?_)
                subst hp
                rw [hcut]
                have U : kz_U D q s A [(ho, .inr (6, [.ref mb, .int (nI sz), .ref mt, .int (nI ln), .ref mw, .int (nI wn), .ref mc, .ref mk, .ref m1, .ref m2, .ref ms, .int (nI dp), .ref mu, .ref mi, .ref mr, .ref mn, .ref mp, .int (nI st_), .int lo_, .int (nI im), .int (nB ex), .ref mj, .int (nI n), .ref me, .ref mh, .int (nB ds)])), (mc, .inl (q 0, 3, .inl (fun x_ => nI (ct x_)))), (mk, .inl (q 0, 384, .inl (fun x_ => nI (kd x_)))), (m1, .inl (q 0, 384, .inl (fun x_ => nI (on x_)))), (m2, .inl (q 0, 384, .inl (fun x_ => nI (tw x_)))), (ms, .inl (q 0, 1152, .inl se)), (mj, .inl (q 0, 24, .inl (fun x_ => nI (s3 x_)))), (me, .inl (q 0, 3200, .inl u.1)), (mh, .inl (q 0, 25, .inl u.2))] H locs := U
                refine lv_aload_n hx hb kd_Mo_first_115 rfl (lv_at hl 4 rfl) ?_
                refine kz_ic X 1 kd_Mo_first_116 (by decide) ?_
                refine kz_cVi (av := [.int (nI 1)]) (rest := [.int (nB (sp_cl ((nd_all NL0).getD (NL0.length - 1) dm_eps) (wd_b n w)))]) (wr := []) X U hl.1 (cm_Mo_fits l D q ho mb mt mw mc mk m1 m2 ms mu mi mr mn mp mj me mh sz ln wn dp st_ im n lo_ ex ds 1 s3 ct kd on tw NL1 se u.1 u.2 (by omega) (by omega) hct1 hN1 htab1 htc3) (by decide) (by decide) ⟨by decide, by decide⟩ tb_653 tb_655 tb_s45 0 rfl rfl tb_11 tb_656 kq_Mo_fits [0, 1, 2, 3, 4, 5, 6, 7, 8] [] (by decide) rfl rfl (by decide) (by decide) rfl (Nat.le_of_ble_eq_true rfl) kd_Mo_first_117 (fun rv v H locs hp U => ?_)
                subst hp
                rw [hcut]
                have U : kz_U D q s A [(ho, .inr (6, [.ref mb, .int (nI sz), .ref mt, .int (nI ln), .ref mw, .int (nI wn), .ref mc, .ref mk, .ref m1, .ref m2, .ref ms, .int (nI dp), .ref mu, .ref mi, .ref mr, .ref mn, .ref mp, .int (nI st_), .int lo_, .int (nI im), .int (nB ex), .ref mj, .int (nI n), .ref me, .ref mh, .int (nB ds)])), (mc, .inl (q 0, 3, .inl (fun x_ => nI (ct x_)))), (mk, .inl (q 0, 384, .inl (fun x_ => nI (kd x_)))), (m1, .inl (q 0, 384, .inl (fun x_ => nI (on x_)))), (m2, .inl (q 0, 384, .inl (fun x_ => nI (tw x_)))), (ms, .inl (q 0, 1152, .inl se)), (mj, .inl (q 0, 24, .inl (fun x_ => nI (s3 x_)))), (me, .inl (q 0, 3200, .inl v.1)), (mh, .inl (q 0, 25, .inl v.2))] H locs := U
                refine lv_icmp_eq hx hb kd_Mo_first_120 rfl (fun h120 => ?_) (fun h120 => ?_)
                · refine lv_iinc (k := 2) (v := nI (w + 1)) hx hb kd_Mo_first_126 hl rfl (nI_add w 1) (by decide) rfl (fun ls hl => ?_)
                  have hl : lv_has ls 7 [(4, .int (nI (w + 1))), (6, .int (nI 0 + (-1))), (5, .int (nI rs)), (3, .int (nI (3 ^ n))), (0, .ref ho), (1, .int (nI 2)), (2, .int (nI n))] := hl
                  refine lv_goto hx hb kd_Mo_first_129 rfl ?_
                  exact ih48 (w + 1) _ _ _ _ _ _ (by omega) (by omega) (by rw [hv, show 3 ^ n - w = (3 ^ n - (w + 1)) + 1 by omega]; exact if_neg (by show ¬ (sp_cl ((nd_all NL0).getD (NL0.length - 1) dm_eps) (wd_b n w) != sp_cl ((nd_all NL1).getD (NL1.length - 1) dm_eps) (wd_b n w)) = true; rw [nB_inj.mp h120]; simp)) (lv_sub hl [0, 3, 4, 5, 6] rfl) U
                · refine lv_iload hx hb kd_Mo_first_123 (lv_at hl 2 rfl) ?_
                  exact kz_ei hQ hA X U ((s3, (v.1, v.2))) rfl (by have e0 : sp_fst (fun w => sp_cl ((nd_all NL0).getD (NL0.length - 1) dm_eps) (wd_b n w) != sp_cl ((nd_all NL1).getD (NL1.length - 1) dm_eps) (wd_b n w)) (3 ^ n) 0 = some w := by rw [hv, show 3 ^ n - w = (3 ^ n - w - 1) + 1 by omega]; exact if_pos (show (sp_cl ((nd_all NL0).getD (NL0.length - 1) dm_eps) (wd_b n w) != sp_cl ((nd_all NL1).getD (NL1.length - 1) dm_eps) (wd_b n w)) = true by simpa using fun z => h120 (nB_inj.mpr z))
                                                                   rw [e0]; exact ⟨(pk_m1 w).symm, fun w2 z => by injection z with z; rw [← z]; exact hsub⟩) kd_Mo_first_125
              · rw [pk_m1] at hl
                refine lv_iload hx hb kd_Mo_first_63 (lv_at hl 0 rfl) ?_
                refine kz_nlt X (by first | omega | (have := h3n; omega)) kd_Mo_first_65 ?_
                refine lv_aload_n hx hb kd_Mo_first_68 rfl (lv_at hl 4 rfl) ?_
                refine kg_Mo_49 X U 0 rfl rfl kd_Mo_first_69 ?_
                refine lv_iload hx hb kd_Mo_first_72 (lv_at hl 0 rfl) ?_
                refine kz_bp X 97 kd_Mo_first_74 (by decide) ?_
                refine lv_iload hx hb kd_Mo_first_76 (lv_at hl 1 rfl) ?_
                refine kz_ic X 3 kd_Mo_first_78 (by decide) ?_
                refine kz_irem X (by first | omega | (have := h3n; omega)) (by omega) (by omega) kd_Mo_first_79 ?_
                refine kz_iadd X kd_Mo_first_80 ?_
                refine kz_top (y := nI (97 + (rs % 3))) rfl ?_
                refine kz_iast (k := m_) X U 6 rfl (by omega) (by omega) kd_Mo_first_81 (fun H locs U => ?_)
                rw [kz_updN] at U
                have U : kz_U D q s A [(ho, .inr (6, [.ref mb, .int (nI sz), .ref mt, .int (nI ln), .ref mw, .int (nI wn), .ref mc, .ref mk, .ref m1, .ref m2, .ref ms, .int (nI dp), .ref mu, .ref mi, .ref mr, .ref mn, .ref mp, .int (nI st_), .int lo_, .int (nI im), .int (nB ex), .ref mj, .int (nI n), .ref me, .ref mh, .int (nB ds)])), (mc, .inl (q 0, 3, .inl (fun x_ => nI (ct x_)))), (mk, .inl (q 0, 384, .inl (fun x_ => nI (kd x_)))), (m1, .inl (q 0, 384, .inl (fun x_ => nI (on x_)))), (m2, .inl (q 0, 384, .inl (fun x_ => nI (tw x_)))), (ms, .inl (q 0, 1152, .inl se)), (mj, .inl (q 0, 24, .inl (fun x_ => nI ((va_up s3 m_ (97 + (rs % 3))) x_)))), (me, .inl (q 0, 3200, .inl e2)), (mh, .inl (q 0, 25, .inl th2))] H locs := U
                refine lv_iload hx hb kd_Mo_first_82 (lv_at hl 1 rfl) ?_
                refine kz_ic X 3 kd_Mo_first_84 (by decide) ?_
                refine kz_idiv X (by first | omega | (have := h3n; omega)) (by omega) (by omega) kd_Mo_first_85 ?_
                refine lv_istore hx hb kd_Mo_first_86 hl (by decide) rfl (fun ls hl => ?_)
                have hl : lv_has ls 7 [(5, .int (nI (rs / 3))), (6, .int (nI m_)), (4, .int (nI w)), (3, .int (nI (3 ^ n))), (0, .ref ho), (1, .int (nI 2)), (2, .int (nI n))] := hl
                refine lv_iinc (k := 1) (v := nI m_ + (-1)) hx hb kd_Mo_first_88 hl rfl rfl (by decide) rfl (fun ls hl => ?_)
                have hl : lv_has ls 7 [(6, .int (nI m_ + (-1))), (5, .int (nI (rs / 3))), (4, .int (nI w)), (3, .int (nI (3 ^ n))), (0, .ref ho), (1, .int (nI 2)), (2, .int (nI n))] := hl
                refine lv_goto hx hb kd_Mo_first_91 rfl ?_
                exact ih63 m_ (rs / 3) _ _ _ _ (by omega) (by omega) (by omega) (fun j h1 h2 => if e : j = m_ then (by rw [e, va_up_eq', hpre m_ (by omega), wd_b_last]) else (by rw [va_up_ne' e]; exact hs3 j (by omega) h2)) (fun j hj => by rw [hpre j (by omega), wd_b_lt hj]) (lv_sub hl [0, 1, 2, 3, 4, 5, 6] rfl) U
          exact loop63 _ n w s2 _ _ _ (Nat.lt_succ_self _) (Nat.le_refl _) (Nat.le_refl _) (fun j h1 h2 => absurd h1 (by omega)) (fun _ _ => rfl) (lv_sub hl [0, 1, 2, 3, 4, 5, 6] rfl) U
    exact loop48 _ 0 sj es th _ _ _ (Nat.lt_succ_self _) (Nat.zero_le _) rfl (lv_sub hl [0, 1, 2, 3, 4] rfl) U
  refine lv_iload_n hx hb kd_Mo_first_0 rfl (lv_at hl 2 rfl) ?_
  refine kz_nne X (by first | omega | (have := h3n; omega)) kd_Mo_first_1 rfl (fun h1 => ?_) (fun h1 => ?_)
  · refine lv_iload_n hx hb kd_Mo_first_8 rfl (lv_at hl 2 rfl) ?_
    refine kz_ic X 1 kd_Mo_first_9 (by decide) ?_
    refine kz_icne X (by first | omega | (have := h3n; omega)) (by first | omega | (have := h3n; omega)) kd_Mo_first_10 rfl (fun h10 => ?_) (fun h10 => ?_)
    · refine lv_iload_n hx hb kd_Mo_first_17 rfl (lv_at hl 2 rfl) ?_
      refine kz_ic X 2 kd_Mo_first_18 (by decide) ?_
      refine kz_icne X (by first | omega | (have := h3n; omega)) (by first | omega | (have := h3n; omega)) kd_Mo_first_19 rfl (fun h19 => ?_) (fun h19 => ?_)
      · refine lv_iload_n hx hb kd_Mo_first_27 rfl (lv_at hl 2 rfl) ?_
        refine kz_ic X 3 kd_Mo_first_28 (by decide) ?_
        refine kz_icne X (by first | omega | (have := h3n; omega)) (by first | omega | (have := h3n; omega)) kd_Mo_first_29 rfl (fun h29 => ?_) (fun h29 => ?_)
        · refine kz_bp X 81 kd_Mo_first_37 (by decide) ?_
          refine kz_top (y := nI (3 ^ n)) (by rw [show n = 4 by omega]) ?_
          refine lv_istore_n hx hb kd_Mo_first_39 rfl hl (by decide) rfl (fun ls hl => ?_)
          have hl : lv_has ls 7 [(3, .int (nI (3 ^ n))), (0, .ref ho), (1, .int (nI 2)), (2, .int (nI n))] := hl
          exact join40 _ _ _ (lv_sub hl [0, 1, 2, 3] rfl) U
        · refine kz_bp X 27 kd_Mo_first_32 (by decide) ?_
          refine lv_goto hx hb kd_Mo_first_34 rfl ?_
          refine kz_top (y := nI (3 ^ n)) (by rw [show n = 3 by omega]) ?_
          refine lv_istore_n hx hb kd_Mo_first_39 rfl hl (by decide) rfl (fun ls hl => ?_)
          have hl : lv_has ls 7 [(3, .int (nI (3 ^ n))), (0, .ref ho), (1, .int (nI 2)), (2, .int (nI n))] := hl
          exact join40 _ _ _ (lv_sub hl [0, 1, 2, 3] rfl) U
      · refine kz_bp X 9 kd_Mo_first_22 (by decide) ?_
        refine lv_goto hx hb kd_Mo_first_24 rfl ?_
        refine kz_top (y := nI (3 ^ n)) (by rw [show n = 2 by omega]) ?_
        refine lv_istore_n hx hb kd_Mo_first_39 rfl hl (by decide) rfl (fun ls hl => ?_)
        have hl : lv_has ls 7 [(3, .int (nI (3 ^ n))), (0, .ref ho), (1, .int (nI 2)), (2, .int (nI n))] := hl
        exact join40 _ _ _ (lv_sub hl [0, 1, 2, 3] rfl) U
    · refine kz_ic X 3 kd_Mo_first_13 (by decide) ?_
      refine lv_goto hx hb kd_Mo_first_14 rfl ?_
      refine kz_top (y := nI (3 ^ n)) (by rw [show n = 1 by omega]) ?_
      refine lv_istore_n hx hb kd_Mo_first_39 rfl hl (by decide) rfl (fun ls hl => ?_)
      have hl : lv_has ls 7 [(3, .int (nI (3 ^ n))), (0, .ref ho), (1, .int (nI 2)), (2, .int (nI n))] := hl
      exact join40 _ _ _ (lv_sub hl [0, 1, 2, 3] rfl) U
  · refine kz_ic X 1 kd_Mo_first_4 (by decide) ?_
    refine lv_goto hx hb kd_Mo_first_5 rfl ?_
    refine kz_top (y := nI (3 ^ n)) (by rw [show n = 0 by omega]) ?_
    refine lv_istore_n hx hb kd_Mo_first_39 rfl hl (by decide) rfl (fun ls hl => ?_)
    have hl : lv_has ls 7 [(3, .int (nI (3 ^ n))), (0, .ref ho), (1, .int (nI 2)), (2, .int (nI n))] := hl
    exact join40 _ _ _ (lv_sub hl [0, 1, 2, 3] rfl) U
