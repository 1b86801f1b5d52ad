/-- the first word, by length, then by the alphabet -/
def sp_wd (g : Nat → Nat → Bool) : Nat → Nat → Option (Nat × Nat)
  | 0, _ => none
  | f + 1, k => if (sp_fst (g k) (3 ^ k) 0).isSome = true then some (k, (sp_fst (g k) (3 ^ k) 0).getD 0) else sp_wd g f (k + 1)
def sp_wk (o : Option (Nat × Nat)) (wn : Nat) (wo : Nat → Nat) (r : Int32) (wn' : Nat) (wo' : Nat → Nat) : Prop := (o = none ∧ r = -2 ∧ wn' = wn ∧ wo' = wo) ∨ ∃ k w, o = some (k, w) ∧ r = nI k ∧ wn' = k ∧ ∀ j, j < k → wo' j = (wd_b k w).getD j 0
theorem sp_o_0 {o : Option Nat} (h : sp_o o = 0) : o = none := by
  cases o with
  | none => rfl
  | some w => cases h
theorem sp_o_p {o : Option Nat} (h : 0 < sp_o o) : o = some (o.getD 0) := by
  cases o with
  | none => exact absurd h (Nat.lt_irrefl _)
  | some w => rfl
theorem sp_fst_lt {g : Nat → Bool} : ∀ {f k w : Nat}, sp_fst g f k = some w → w < k + f
  | 0, k, w, h => by cases h
  | f + 1, k, w, h => by
    by_cases hg : g k = true
    · have : sp_fst g (f + 1) k = some k := if_pos hg
      rw [this] at h
      injection h with h
      omega
    · have : sp_fst g (f + 1) k = sp_fst g f (k + 1) := if_neg hg
      rw [this] at h
      have := sp_fst_lt h
      omega

set_option maxHeartbeats 4000000 in
set_option maxRecDepth 100000 in
theorem cm_Mo_wordOf_p (l : Launch) (D : va_G) (q : Nat → ClassId) (ho mb mt mw mc mk m1 m2 ms mu mi mr mn mp mj me mh : Nat) (sz ln wn dp st_ im en : Nat) (lo_ : Int32) (ex ds : Bool) (p_ n : Nat) (wo sj ct kd on tw : Nat → Nat) (NL : List nd_N) (se es th : Nat → Int32) (hp_ : p_ ≤ 1) (hct : ct p_ = NL.length) (hN1 : 0 < NL.length) (htab : nd_tab (128 * p_) NL kd on tw se) (hn4 : n ≤ 4) : kz_Mi (S := (Nat × (Nat → Nat)) × ((Nat → Nat) × Nat × ((Nat → Int32) × (Nat → Int32)))) l ky_Mo_wordOf kb_Mo_wordOf 5 (some .int) 6 D q [.ref ho, .int (nI p_), .int (nI n)] [(ho, .inr (6, [.ref mb, .int (nI sz), .ref mt, .int (nI ln), .ref mw, .int (nI wn), .ref mc, .ref mk, .ref m1, .ref m2, .ref ms, .int (nI dp), .ref mu, .ref mi, .ref mr, .ref mn, .ref mp, .int (nI st_), .int lo_, .int (nI im), .int (nB ex), .ref mj, .int (nI en), .ref me, .ref mh, .int (nB ds)])), (mw, .inl (q 0, 4, .inl (fun x_ => nI (wo x_)))), (mc, .inl (q 0, 3, .inl (fun x_ => nI (ct x_)))), (mk, .inl (q 0, 384, .inl (fun x_ => nI (kd x_)))), (m1, .inl (q 0, 384, .inl (fun x_ => nI (on x_)))), (m2, .inl (q 0, 384, .inl (fun x_ => nI (tw x_)))), (ms, .inl (q 0, 1152, .inl se)), (mj, .inl (q 0, 24, .inl (fun x_ => nI (sj x_)))), (me, .inl (q 0, 3200, .inl es)), (mh, .inl (q 0, 25, .inl th))] (fun r u => sp_wk (sp_wd (fun n w => sp_cl ((nd_all NL).getD (NL.length - 1) dm_eps) (wd_b n w)) (n + 1) 0) wn wo r u.1.1 u.1.2) (fun u => [(ho, .inr (6, [.ref mb, .int (nI sz), .ref mt, .int (nI ln), .ref mw, .int (nI u.1.1), .ref mc, .ref mk, .ref m1, .ref m2, .ref ms, .int (nI dp), .ref mu, .ref mi, .ref mr, .ref mn, .ref mp, .int (nI st_), .int lo_, .int (nI im), .int (nB ex), .ref mj, .int (nI u.2.2.1), .ref me, .ref mh, .int (nB ds)])), (mw, .inl (q 0, 4, .inl (fun x_ => nI (u.1.2 x_)))), (mc, .inl (q 0, 3, .inl (fun x_ => nI (ct x_)))), (mk, .inl (q 0, 384, .inl (fun x_ => nI (kd x_)))), (m1, .inl (q 0, 384, .inl (fun x_ => nI (on x_)))), (m2, .inl (q 0, 384, .inl (fun x_ => nI (tw x_)))), (ms, .inl (q 0, 1152, .inl se)), (mj, .inl (q 0, 24, .inl (fun x_ => nI (u.2.1 x_)))), (me, .inl (q 0, 3200, .inl u.2.2.2.1)), (mh, .inl (q 0, 25, .inl u.2.2.2.2))]) := by
  intro sz_
  refine kz_go (by decide +kernel) (Nat.le_of_ble_eq_true rfl) ?_
  intro p e s m below meth c ls args A Q H locs hQ hA X U hl
  have hx := X.1
  have hb := X.2.1
  have hl : lv_has ls 5 [(0, .ref ho), (1, .int (nI p_)), (2, .int (nI n))] := hl
  refine kz_ic X 0 kd_Mo_wordOf_0 (by decide) ?_
  refine lv_istore_n hx hb kd_Mo_wordOf_1 rfl hl (by decide) rfl (fun ls hl => ?_)
  have hl : lv_has ls 5 [(3, .int (nI 0)), (0, .ref ho), (1, .int (nI p_)), (2, .int (nI n))] := hl
  have loop2 : ∀ (fuel : Nat) (k : Nat) (s2 : Nat → Nat) (n2 : Nat) (e2 : Nat → Int32) (th2 : Nat → Int32) (ls : Array Slot) (H : Heap) (locs : List Loc), n + 2 - k < fuel → (k ≤ n + 1) → (sp_wd (fun n w => sp_cl ((nd_all NL).getD (NL.length - 1) dm_eps) (wd_b n w)) (n + 1) 0 = sp_wd (fun n w => sp_cl ((nd_all NL).getD (NL.length - 1) dm_eps) (wd_b n w)) (n + 1 - k) k) → lv_has ls 5 [(3, .int (nI k)), (0, .ref ho), (1, .int (nI p_)), (2, .int (nI n))] → kz_U D q s A [(ho, .inr (6, [.ref mb, .int (nI sz), .ref mt, .int (nI ln), .ref mw, .int (nI wn), .ref mc, .ref mk, .ref m1, .ref m2, .ref ms, .int (nI dp), .ref mu, .ref mi, .ref mr, .ref mn, .ref mp, .int (nI st_), .int lo_, .int (nI im), .int (nB ex), .ref mj, .int (nI n2), .ref me, .ref mh, .int (nB ds)])), (mw, .inl (q 0, 4, .inl (fun x_ => nI (wo x_)))), (mc, .inl (q 0, 3, .inl (fun x_ => nI (ct x_)))), (mk, .inl (q 0, 384, .inl (fun x_ => nI (kd x_)))), (m1, .inl (q 0, 384, .inl (fun x_ => nI (on x_)))), (m2, .inl (q 0, 384, .inl (fun x_ => nI (tw x_)))), (ms, .inl (q 0, 1152, .inl se)), (mj, .inl (q 0, 24, .inl (fun x_ => nI (s2 x_)))), (me, .inl (q 0, 3200, .inl e2)), (mh, .inl (q 0, 25, .inl th2))] H locs → W p l e (kz_rm 6) s m args below meth c H locs 0 0 Q (F0 m 2 ls []) := by
    intro fuel
    induction fuel with
    | zero => intro k s2 n2 e2 th2 ls H locs hme; exact absurd hme (Nat.not_lt_zero _)
    | succ fuel ih2 =>
      intro k s2 n2 e2 th2 ls H locs hme hk hv hl U
      refine lv_iload_n hx hb kd_Mo_wordOf_2 rfl (lv_at hl 0 rfl) ?_
      refine lv_iload_n hx hb kd_Mo_wordOf_3 rfl (lv_at hl 3 rfl) ?_
      refine kz_icgt X (by omega) (by omega) kd_Mo_wordOf_4 rfl (fun h4 => ?_) (fun h4 => ?_)
      · refine lv_bipush (v := (-2)) hx hb kd_Mo_wordOf_58 (by decide) ?_
        exact kz_ei hQ hA X U (((wn, wo), (s2, n2, (e2, th2)))) rfl (Or.inl ⟨by rw [hv, show n + 1 - k = 0 by omega]; rfl, rfl, rfl, rfl⟩) kd_Mo_wordOf_60
      · refine lv_aload_n hx hb kd_Mo_wordOf_7 rfl (lv_at hl 1 rfl) ?_
        refine lv_iload_n hx hb kd_Mo_wordOf_8 rfl (lv_at hl 2 rfl) ?_
        refine lv_iload_n hx hb kd_Mo_wordOf_9 rfl (lv_at hl 0 rfl) ?_
        refine kz_cVi (av := [.int (nI p_), .int (nI k)]) (rest := []) (wr := [(mw, .inl (q 0, 4, .inl (fun x_ => nI (wo x_))))]) X U hl.1 (cm_Mo_first_p l D q ho mb mt mw mc mk m1 m2 ms mu mi mr mn mp mj me mh sz ln wn dp st_ im n2 lo_ ex ds p_ k s2 ct kd on tw NL se e2 th2 hp_ hct hN1 htab (by omega)) (by decide) (by decide) ⟨by decide, by decide⟩ tb_649 tb_651 tb_s44 0 rfl rfl tb_11 tb_652 kq_Mo_first [0, 2, 3, 4, 5, 6, 7, 8, 9] [1] (by decide) rfl rfl (by decide) (by decide) rfl (Nat.le_of_ble_eq_true rfl) kd_Mo_wordOf_10 (fun rv u H locs hu U => ?_)
        obtain ⟨hu1, hu2⟩ := hu
        subst hu1
        obtain ⟨o_, ho_⟩ : ∃ o_, o_ = sp_fst ((fun n w => sp_cl ((nd_all NL).getD (NL.length - 1) dm_eps) (wd_b n w)) k) (3 ^ k) 0 := ⟨_, rfl⟩
        have hu2 : ∀ w, o_ = some w → ∀ j, j < k → u.1 j = (wd_b k w).getD j 0 := fun w hw_ => hu2 w (by rw [← hw_, ho_])
        refine kz_top (y := nI (sp_o o_) + (-1)) (by rw [ho_]) ?_
        have h3k : 3 ^ k ≤ 81 := Nat.pow_le_pow_right (by omega) (show k ≤ 4 by omega)
        have hol : sp_o o_ ≤ 82 := by
            cases hq : o_ with
            | none => exact Nat.zero_le _
            | some w => have := sp_fst_lt (ho_ ▸ hq); show w + 1 ≤ 82; omega
        have U : kz_U D q s A [(ho, .inr (6, [.ref mb, .int (nI sz), .ref mt, .int (nI ln), .ref mw, .int (nI wn), .ref mc, .ref mk, .ref m1, .ref m2, .ref ms, .int (nI dp), .ref mu, .ref mi, .ref mr, .ref mn, .ref mp, .int (nI st_), .int lo_, .int (nI im), .int (nB ex), .ref mj, .int (nI k), .ref me, .ref mh, .int (nB ds)])), (mw, .inl (q 0, 4, .inl (fun x_ => nI (wo x_)))), (mc, .inl (q 0, 3, .inl (fun x_ => nI (ct x_)))), (mk, .inl (q 0, 384, .inl (fun x_ => nI (kd x_)))), (m1, .inl (q 0, 384, .inl (fun x_ => nI (on x_)))), (m2, .inl (q 0, 384, .inl (fun x_ => nI (tw x_)))), (ms, .inl (q 0, 1152, .inl se)), (mj, .inl (q 0, 24, .inl (fun x_ => nI (u.1 x_)))), (me, .inl (q 0, 3200, .inl u.2.1)), (mh, .inl (q 0, 25, .inl u.2.2))] H locs := U.sub [1, 0, 2, 3, 4, 5, 6, 7, 8, 9] (by decide) rfl
        refine kz_mlt X (by omega) kd_Mo_wordOf_13 rfl (fun h13 => ?_) (fun h13 => ?_)
        · refine lv_iinc (k := 0) (v := nI (k + 1)) hx hb kd_Mo_wordOf_52 hl rfl (nI_add k 1) (by decide) rfl (fun ls hl => ?_)
          have hl : lv_has ls 5 [(3, .int (nI (k + 1))), (0, .ref ho), (1, .int (nI p_)), (2, .int (nI n))] := hl
          refine lv_goto hx hb kd_Mo_wordOf_55 rfl ?_
          exact ih2 (k + 1) _ _ _ _ _ _ _ (by omega) (by omega) (by rw [hv, show n + 1 - k = (n + 1 - (k + 1)) + 1 by omega]; exact if_neg (by rw [← ho_, sp_o_0 h13]; decide)) (lv_sub hl [0, 1, 2, 3] rfl) U
        · refine kz_ic X 0 kd_Mo_wordOf_16 (by decide) ?_
          refine lv_istore hx hb kd_Mo_wordOf_17 hl (by decide) rfl (fun ls hl => ?_)
          have hl : lv_has ls 5 [(4, .int (nI 0)), (3, .int (nI k)), (0, .ref ho), (1, .int (nI p_)), (2, .int (nI n))] := hl
          have loop19 : ∀ (fuel : Nat) (i : Nat) (ls : Array Slot) (H : Heap) (locs : List Loc), k + 1 - i < fuel → (i ≤ k) → lv_has ls 5 [(4, .int (nI i)), (3, .int (nI k)), (0, .ref ho)] → kz_U D q s A [(ho, .inr (6, [.ref mb, .int (nI sz), .ref mt, .int (nI ln), .ref mw, .int (nI wn), .ref mc, .ref mk, .ref m1, .ref m2, .ref ms, .int (nI dp), .ref mu, .ref mi, .ref mr, .ref mn, .ref mp, .int (nI st_), .int lo_, .int (nI im), .int (nB ex), .ref mj, .int (nI k), .ref me, .ref mh, .int (nB ds)])), (mw, .inl (q 0, 4, .inl (kz_fl (fun j => nI (u.1 j)) (fun j => nI (wo j)) i))), (mc, .inl (q 0, 3, .inl (fun x_ => nI (ct x_)))), (mk, .inl (q 0, 384, .inl (fun x_ => nI (kd x_)))), (m1, .inl (q 0, 384, .inl (fun x_ => nI (on x_)))), (m2, .inl (q 0, 384, .inl (fun x_ => nI (tw x_)))), (ms, .inl (q 0, 1152, .inl se)), (mj, .inl (q 0, 24, .inl (fun x_ => nI (u.1 x_)))), (me, .inl (q 0, 3200, .inl u.2.1)), (mh, .inl (q 0, 25, .inl u.2.2))] H locs → W p l e (kz_rm 6) s m args below meth c H locs 0 0 Q (F0 m 19 ls []) := by
            intro fuel
            induction fuel with
            | zero => intro i ls H locs hme; exact absurd hme (Nat.not_lt_zero _)
            | succ fuel ih19 =>
              intro i ls H locs hme hi hl U
              refine lv_iload hx hb kd_Mo_wordOf_19 (lv_at hl 0 rfl) ?_
              refine lv_iload_n hx hb kd_Mo_wordOf_21 rfl (lv_at hl 1 rfl) ?_
              refine kz_icge X (by omega) (by omega) kd_Mo_wordOf_22 rfl (fun h22 => ?_) (fun h22 => ?_)
              · rw [show i = k by omega, kz_flN] at U
                have U : kz_U D q s A [(ho, .inr (6, [.ref mb, .int (nI sz), .ref mt, .int (nI ln), .ref mw, .int (nI wn), .ref mc, .ref mk, .ref m1, .ref m2, .ref ms, .int (nI dp), .ref mu, .ref mi, .ref mr, .ref mn, .ref mp, .int (nI st_), .int lo_, .int (nI im), .int (nB ex), .ref mj, .int (nI k), .ref me, .ref mh, .int (nB ds)])), (mw, .inl (q 0, 4, .inl (fun x_ => nI ((va_cpy u.1 wo 0 0 k) x_)))), (mc, .inl (q 0, 3, .inl (fun x_ => nI (ct x_)))), (mk, .inl (q 0, 384, .inl (fun x_ => nI (kd x_)))), (m1, .inl (q 0, 384, .inl (fun x_ => nI (on x_)))), (m2, .inl (q 0, 384, .inl (fun x_ => nI (tw x_)))), (ms, .inl (q 0, 1152, .inl se)), (mj, .inl (q 0, 24, .inl (fun x_ => nI (u.1 x_)))), (me, .inl (q 0, 3200, .inl u.2.1)), (mh, .inl (q 0, 25, .inl u.2.2))] H locs := U
                refine lv_aload_n hx hb kd_Mo_wordOf_45 rfl (lv_at hl 2 rfl) ?_
                refine lv_iload_n hx hb kd_Mo_wordOf_46 rfl (lv_at hl 1 rfl) ?_
                refine kp_Mo_178 X U 0 rfl (Nat.le_of_ble_eq_true rfl) kd_Mo_wordOf_47 (fun H locs U => ?_)
                have U : kz_U D q s A [(ho, .inr (6, [.ref mb, .int (nI sz), .ref mt, .int (nI ln), .ref mw, .int (nI k), .ref mc, .ref mk, .ref m1, .ref m2, .ref ms, .int (nI dp), .ref mu, .ref mi, .ref mr, .ref mn, .ref mp, .int (nI st_), .int lo_, .int (nI im), .int (nB ex), .ref mj, .int (nI k), .ref me, .ref mh, .int (nB ds)])), (mw, .inl (q 0, 4, .inl (fun x_ => nI ((va_cpy u.1 wo 0 0 k) x_)))), (mc, .inl (q 0, 3, .inl (fun x_ => nI (ct x_)))), (mk, .inl (q 0, 384, .inl (fun x_ => nI (kd x_)))), (m1, .inl (q 0, 384, .inl (fun x_ => nI (on x_)))), (m2, .inl (q 0, 384, .inl (fun x_ => nI (tw x_)))), (ms, .inl (q 0, 1152, .inl se)), (mj, .inl (q 0, 24, .inl (fun x_ => nI (u.1 x_)))), (me, .inl (q 0, 3200, .inl u.2.1)), (mh, .inl (q 0, 25, .inl u.2.2))] H locs := U
                refine lv_iload_n hx hb kd_Mo_wordOf_50 rfl (lv_at hl 1 rfl) ?_
                exact kz_ei hQ hA X U (((k, va_cpy u.1 wo 0 0 k), (u.1, k, u.2))) rfl (Or.inr ⟨k, o_.getD 0, by rw [hv, show n + 1 - k = (n - k) + 1 by omega]; exact (if_pos (by rw [← ho_, sp_o_p h13]; rfl)).trans (by rw [← ho_]), rfl, rfl, fun j hj => by show va_cpy u.1 wo 0 0 k j = _; rw [pk_cpy_in (by omega) (by omega)]; have := hu2 _ (sp_o_p h13) j hj; simpa using this⟩) kd_Mo_wordOf_51
              · refine lv_aload_n hx hb kd_Mo_wordOf_25 rfl (lv_at hl 2 rfl) ?_
                refine kg_Mo_16 X U 0 rfl rfl kd_Mo_wordOf_26 ?_
                refine lv_iload hx hb kd_Mo_wordOf_29 (lv_at hl 0 rfl) ?_
                refine lv_aload_n hx hb kd_Mo_wordOf_31 rfl (lv_at hl 2 rfl) ?_
                refine kg_Mo_49 X U 0 rfl rfl kd_Mo_wordOf_32 ?_
                refine lv_iload hx hb kd_Mo_wordOf_35 (lv_at hl 0 rfl) ?_
                refine kz_iald (k := i) X U 7 rfl (by omega) (by omega) kd_Mo_wordOf_37 ?_
                refine kz_top (y := nI (u.1 i)) rfl ?_
                refine kz_iast (k := i) X U 1 rfl (by omega) (by omega) kd_Mo_wordOf_38 (fun H locs U => ?_)
                have U : kz_U D q s A [(ho, .inr (6, [.ref mb, .int (nI sz), .ref mt, .int (nI ln), .ref mw, .int (nI wn), .ref mc, .ref mk, .ref m1, .ref m2, .ref ms, .int (nI dp), .ref mu, .ref mi, .ref mr, .ref mn, .ref mp, .int (nI st_), .int lo_, .int (nI im), .int (nB ex), .ref mj, .int (nI k), .ref me, .ref mh, .int (nB ds)])), (mw, .inl (q 0, 4, .inl (upd (kz_fl (fun j => nI (u.1 j)) (fun j => nI (wo j)) i) i (nI (u.1 i))))), (mc, .inl (q 0, 3, .inl (fun x_ => nI (ct x_)))), (mk, .inl (q 0, 384, .inl (fun x_ => nI (kd x_)))), (m1, .inl (q 0, 384, .inl (fun x_ => nI (on x_)))), (m2, .inl (q 0, 384, .inl (fun x_ => nI (tw x_)))), (ms, .inl (q 0, 1152, .inl se)), (mj, .inl (q 0, 24, .inl (fun x_ => nI (u.1 x_)))), (me, .inl (q 0, 3200, .inl u.2.1)), (mh, .inl (q 0, 25, .inl u.2.2))] H locs := U
                refine lv_iinc (k := 0) (v := nI (i + 1)) hx hb kd_Mo_wordOf_39 hl rfl (nI_add i 1) (by decide) rfl (fun ls hl => ?_)
                have hl : lv_has ls 5 [(4, .int (nI (i + 1))), (3, .int (nI k)), (0, .ref ho)] := hl
                refine lv_goto hx hb kd_Mo_wordOf_42 rfl ?_
                have U : kz_U D q s A [(ho, .inr (6, [.ref mb, .int (nI sz), .ref mt, .int (nI ln), .ref mw, .int (nI wn), .ref mc, .ref mk, .ref m1, .ref m2, .ref ms, .int (nI dp), .ref mu, .ref mi, .ref mr, .ref mn, .ref mp, .int (nI st_), .int lo_, .int (nI im), .int (nB ex), .ref mj, .int (nI k), .ref me, .ref mh, .int (nB ds)])), (mw, .inl (q 0, 4, .inl (kz_fl (fun j => nI (u.1 j)) (fun j => nI (wo j)) (i + 1)))), (mc, .inl (q 0, 3, .inl (fun x_ => nI (ct x_)))), (mk, .inl (q 0, 384, .inl (fun x_ => nI (kd x_)))), (m1, .inl (q 0, 384, .inl (fun x_ => nI (on x_)))), (m2, .inl (q 0, 384, .inl (fun x_ => nI (tw x_)))), (ms, .inl (q 0, 1152, .inl se)), (mj, .inl (q 0, 24, .inl (fun x_ => nI (u.1 x_)))), (me, .inl (q 0, 3200, .inl u.2.1)), (mh, .inl (q 0, 25, .inl u.2.2))] H locs := by rw [← kz_fl_s (F := fun j => nI (u.1 j)) (v := nI (u.1 i)) rfl]; exact U
                exact ih19 (i + 1) _ _ _ (by omega) (by omega) (lv_sub hl [0, 1, 2] rfl) U
          have U : kz_U D q s A [(ho, .inr (6, [.ref mb, .int (nI sz), .ref mt, .int (nI ln), .ref mw, .int (nI wn), .ref mc, .ref mk, .ref m1, .ref m2, .ref ms, .int (nI dp), .ref mu, .ref mi, .ref mr, .ref mn, .ref mp, .int (nI st_), .int lo_, .int (nI im), .int (nB ex), .ref mj, .int (nI k), .ref me, .ref mh, .int (nB ds)])), (mw, .inl (q 0, 4, .inl (kz_fl (fun j => nI (u.1 j)) (fun j => nI (wo j)) 0))), (mc, .inl (q 0, 3, .inl (fun x_ => nI (ct x_)))), (mk, .inl (q 0, 384, .inl (fun x_ => nI (kd x_)))), (m1, .inl (q 0, 384, .inl (fun x_ => nI (on x_)))), (m2, .inl (q 0, 384, .inl (fun x_ => nI (tw x_)))), (ms, .inl (q 0, 1152, .inl se)), (mj, .inl (q 0, 24, .inl (fun x_ => nI (u.1 x_)))), (me, .inl (q 0, 3200, .inl u.2.1)), (mh, .inl (q 0, 25, .inl u.2.2))] H locs := by rw [kz_fl_0]; exact U
          exact loop19 _ 0 _ _ _ (Nat.lt_succ_self _) (by omega) (lv_sub hl [0, 1, 2] rfl) U
  exact loop2 _ 0 sj en es th _ _ _ (Nat.lt_succ_self _) (by omega) rfl (lv_sub hl [0, 1, 2, 3] rfl) U

set_option maxHeartbeats 4000000 in
set_option maxRecDepth 100000 in
theorem cm_Mo_shortest (l : Launch) (D : va_G) (q : Nat → ClassId) (ho mb mt mw mc mk m1 m2 ms mu mi mr mn mp mj me mh : Nat) (sz ln wn dp st_ im en : Nat) (lo_ : Int32) (ex ds : Bool) (p_ n : Nat) (wo sj ct kd on tw : Nat → Nat) (NL : List nd_N) (se es th : Nat → Int32) (hp_ : p_ ≤ 1) (hct : ct p_ = NL.length) (hN1 : 0 < NL.length) (htab : nd_tab (128 * p_) NL kd on tw se) (hn4 : n ≤ 4) : kz_Mi (S := (Nat × (Nat → Nat)) × ((Nat → Nat) × Nat × ((Nat → Int32) × (Nat → Int32)))) l ky_Mo_shortest kb_Mo_shortest 3 (some .int) 7 D q [.ref ho, .int (nI p_), .int (nI n)] [(ho, .inr (6, [.ref mb, .int (nI sz), .ref mt, .int (nI ln), .ref mw, .int (nI wn), .ref mc, .ref mk, .ref m1, .ref m2, .ref ms, .int (nI dp), .ref mu, .ref mi, .ref mr, .ref mn, .ref mp, .int (nI st_), .int lo_, .int (nI im), .int (nB ex), .ref mj, .int (nI en), .ref me, .ref mh, .int (nB ds)])), (mw, .inl (q 0, 4, .inl (fun x_ => nI (wo x_)))), (mc, .inl (q 0, 3, .inl (fun x_ => nI (ct x_)))), (mk, .inl (q 0, 384, .inl (fun x_ => nI (kd x_)))), (m1, .inl (q 0, 384, .inl (fun x_ => nI (on x_)))), (m2, .inl (q 0, 384, .inl (fun x_ => nI (tw x_)))), (ms, .inl (q 0, 1152, .inl se)), (mj, .inl (q 0, 24, .inl (fun x_ => nI (sj x_)))), (me, .inl (q 0, 3200, .inl es)), (mh, .inl (q 0, 25, .inl th))] (fun r u => sp_wk (sp_wd (fun n w => sp_cl ((nd_all NL).getD (NL.length - 1) dm_eps) (wd_b n w)) (n + 1) 0) wn wo r u.1.1 u.1.2) (fun u => [(ho, .inr (6, [.ref mb, .int (nI sz), .ref mt, .int (nI ln), .ref mw, .int (nI u.1.1), .ref mc, .ref mk, .ref m1, .ref m2, .ref ms, .int (nI dp), .ref mu, .ref mi, .ref mr, .ref mn, .ref mp, .int (nI st_), .int lo_, .int (nI im), .int (nB ex), .ref mj, .int (nI u.2.2.1), .ref me, .ref mh, .int (nB ds)])), (mw, .inl (q 0, 4, .inl (fun x_ => nI (u.1.2 x_)))), (mc, .inl (q 0, 3, .inl (fun x_ => nI (ct x_)))), (mk, .inl (q 0, 384, .inl (fun x_ => nI (kd x_)))), (m1, .inl (q 0, 384, .inl (fun x_ => nI (on x_)))), (m2, .inl (q 0, 384, .inl (fun x_ => nI (tw x_)))), (ms, .inl (q 0, 1152, .inl se)), (mj, .inl (q 0, 24, .inl (fun x_ => nI (u.2.1 x_)))), (me, .inl (q 0, 3200, .inl u.2.2.2.1)), (mh, .inl (q 0, 25, .inl u.2.2.2.2))]) := by
  intro sz_
  refine kz_go (by decide +kernel) (Nat.le_of_ble_eq_true rfl) ?_
  intro p e s m below meth c ls args A Q H locs hQ hA X U hl
  have hx := X.1
  have hb := X.2.1
  have hl : lv_has ls 3 [(0, .ref ho), (1, .int (nI p_)), (2, .int (nI n))] := hl
  refine lv_iload_n hx hb kd_Mo_shortest_0 rfl (lv_at hl 1 rfl) ?_
  refine kz_nlt X (by omega) kd_Mo_shortest_1 ?_
  refine lv_iload_n hx hb kd_Mo_shortest_4 rfl (lv_at hl 1 rfl) ?_
  refine kz_ic X 1 kd_Mo_shortest_5 (by decide) ?_
  refine kz_icgt X (by omega) (by omega) kd_Mo_shortest_6 rfl (fun h6 => absurd h6 (by omega)) (fun h6 => ?_)
  refine lv_iload_n hx hb kd_Mo_shortest_9 rfl (lv_at hl 2 rfl) ?_
  refine kz_nlt X (by omega) kd_Mo_shortest_10 ?_
  refine lv_iload_n hx hb kd_Mo_shortest_13 rfl (lv_at hl 2 rfl) ?_
  refine kz_ic X 4 kd_Mo_shortest_14 (by decide) ?_
  refine kz_icle X (by omega) (by omega) kd_Mo_shortest_15 rfl (fun h15 => ?_) (fun h15 => absurd h15 (by omega))
  refine lv_aload_n hx hb kd_Mo_shortest_22 rfl (lv_at hl 0 rfl) ?_
  refine lv_iload_n hx hb kd_Mo_shortest_23 rfl (lv_at hl 1 rfl) ?_
  refine lv_iload_n hx hb kd_Mo_shortest_24 rfl (lv_at hl 2 rfl) ?_
  refine kz_cVi (av := [.int (nI p_), .int (nI n)]) (rest := []) (wr := []) X U hl.1 (cm_Mo_wordOf_p l D q ho mb mt mw mc mk m1 m2 ms mu mi mr mn mp mj me mh sz ln wn dp st_ im en lo_ ex ds p_ n wo sj ct kd on tw NL se es th hp_ hct hN1 htab hn4) (by decide) (by decide) ⟨by decide, by decide⟩ tb_645 tb_647 tb_s43 0 rfl rfl tb_11 tb_648 kq_Mo_wordOf [0, 1, 2, 3, 4, 5, 6, 7, 8, 9] [] (by decide) rfl rfl (by decide) (by decide) rfl (Nat.le_of_ble_eq_true rfl) kd_Mo_shortest_25 (fun rv u H locs hu U => ?_)
  have U : kz_U D q s A [(ho, .inr (6, [.ref mb, .int (nI sz), .ref mt, .int (nI ln), .ref mw, .int (nI u.1.1), .ref mc, .ref mk, .ref m1, .ref m2, .ref ms, .int (nI dp), .ref mu, .ref mi, .ref mr, .ref mn, .ref mp, .int (nI st_), .int lo_, .int (nI im), .int (nB ex), .ref mj, .int (nI u.2.2.1), .ref me, .ref mh, .int (nB ds)])), (mw, .inl (q 0, 4, .inl (fun x_ => nI (u.1.2 x_)))), (mc, .inl (q 0, 3, .inl (fun x_ => nI (ct x_)))), (mk, .inl (q 0, 384, .inl (fun x_ => nI (kd x_)))), (m1, .inl (q 0, 384, .inl (fun x_ => nI (on x_)))), (m2, .inl (q 0, 384, .inl (fun x_ => nI (tw x_)))), (ms, .inl (q 0, 1152, .inl se)), (mj, .inl (q 0, 24, .inl (fun x_ => nI (u.2.1 x_)))), (me, .inl (q 0, 3200, .inl u.2.2.2.1)), (mh, .inl (q 0, 25, .inl u.2.2.2.2))] H locs := U
  exact kz_ei hQ hA X U u rfl (hu) kd_Mo_shortest_28

set_option maxHeartbeats 4000000 in
set_option maxRecDepth 100000 in
theorem cm_Mo_wordOf_d (l : Launch) (D : va_G) (q : Nat → ClassId) (ho mb mt mw mc mk m1 m2 ms mu mi mr mn mp mj me mh : Nat) (sz ln wn dp st_ im en : Nat) (lo_ : Int32) (ex ds : Bool) (n : Nat) (wo sj ct kd on tw : Nat → Nat) (NL0 NL1 : List nd_N) (se es th : Nat → Int32) (hct0 : ct 0 = NL0.length) (hct1 : ct 1 = NL1.length) (hN0 : 0 < NL0.length) (hN1 : 0 < NL1.length) (htab0 : nd_tab 0 NL0 kd on tw se) (htab1 : nd_tab 128 NL1 kd on tw se) (hn4 : n ≤ 4) : kz_Mi (S := (Nat × (Nat → Nat)) × ((Nat → Nat) × Nat × ((Nat → Int32) × (Nat → Int32)))) l ky_Mo_wordOf kb_Mo_wordOf 5 (some .int) 6 D q [.ref ho, .int (nI 2), .int (nI n)] [(ho, .inr (6, [.ref mb, .int (nI sz), .ref mt, .int (nI ln), .ref mw, .int (nI wn), .ref mc, .ref mk, .ref m1, .ref m2, .ref ms, .int (nI dp), .ref mu, .ref mi, .ref mr, .ref mn, .ref mp, .int (nI st_), .int lo_, .int (nI im), .int (nB ex), .ref mj, .int (nI en), .ref me, .ref mh, .int (nB ds)])), (mw, .inl (q 0, 4, .inl (fun x_ => nI (wo x_)))), (mc, .inl (q 0, 3, .inl (fun x_ => nI (ct x_)))), (mk, .inl (q 0, 384, .inl (fun x_ => nI (kd x_)))), (m1, .inl (q 0, 384, .inl (fun x_ => nI (on x_)))), (m2, .inl (q 0, 384, .inl (fun x_ => nI (tw x_)))), (ms, .inl (q 0, 1152, .inl se)), (mj, .inl (q 0, 24, .inl (fun x_ => nI (sj x_)))), (me, .inl (q 0, 3200, .inl es)), (mh, .inl (q 0, 25, .inl th))] (fun r u => sp_wk (sp_wd (fun n w => sp_cl ((nd_all NL0).getD (NL0.length - 1) dm_eps) (wd_b n w) != sp_cl ((nd_all NL1).getD (NL1.length - 1) dm_eps) (wd_b n w)) (n + 1) 0) wn wo r u.1.1 u.1.2) (fun u => [(ho, .inr (6, [.ref mb, .int (nI sz), .ref mt, .int (nI ln), .ref mw, .int (nI u.1.1), .ref mc, .ref mk, .ref m1, .ref m2, .ref ms, .int (nI dp), .ref mu, .ref mi, .ref mr, .ref mn, .ref mp, .int (nI st_), .int lo_, .int (nI im), .int (nB ex), .ref mj, .int (nI u.2.2.1), .ref me, .ref mh, .int (nB ds)])), (mw, .inl (q 0, 4, .inl (fun x_ => nI (u.1.2 x_)))), (mc, .inl (q 0, 3, .inl (fun x_ => nI (ct x_)))), (mk, .inl (q 0, 384, .inl (fun x_ => nI (kd x_)))), (m1, .inl (q 0, 384, .inl (fun x_ => nI (on x_)))), (m2, .inl (q 0, 384, .inl (fun x_ => nI (tw x_)))), (ms, .inl (q 0, 1152, .inl se)), (mj, .inl (q 0, 24, .inl (fun x_ => nI (u.2.1 x_)))), (me, .inl (q 0, 3200, .inl u.2.2.2.1)), (mh, .inl (q 0, 25, .inl u.2.2.2.2))]) := by
  intro sz_
  refine kz_go (by decide +kernel) (Nat.le_of_ble_eq_true rfl) ?_
  intro p e s m below meth c ls args A Q H locs hQ hA X U hl
  have hx := X.1
  have hb := X.2.1
  have hl : lv_has ls 5 [(0, .ref ho), (1, .int (nI 2)), (2, .int (nI n))] := hl
  refine kz_ic X 0 kd_Mo_wordOf_0 (by decide) ?_
  refine lv_istore_n hx hb kd_Mo_wordOf_1 rfl hl (by decide) rfl (fun ls hl => ?_)
  have hl : lv_has ls 5 [(3, .int (nI 0)), (0, .ref ho), (1, .int (nI 2)), (2, .int (nI n))] := hl
  have loop2 : ∀ (fuel : Nat) (k : Nat) (s2 : Nat → Nat) (n2 : Nat) (e2 : Nat → Int32) (th2 : Nat → Int32) (ls : Array Slot) (H : Heap) (locs : List Loc), n + 2 - k < fuel → (k ≤ n + 1) → (sp_wd (fun n w => sp_cl ((nd_all NL0).getD (NL0.length - 1) dm_eps) (wd_b n w) != sp_cl ((nd_all NL1).getD (NL1.length - 1) dm_eps) (wd_b n w)) (n + 1) 0 = sp_wd (fun n w => sp_cl ((nd_all NL0).getD (NL0.length - 1) dm_eps) (wd_b n w) != sp_cl ((nd_all NL1).getD (NL1.length - 1) dm_eps) (wd_b n w)) (n + 1 - k) k) → lv_has ls 5 [(3, .int (nI k)), (0, .ref ho), (1, .int (nI 2)), (2, .int (nI n))] → kz_U D q s A [(ho, .inr (6, [.ref mb, .int (nI sz), .ref mt, .int (nI ln), .ref mw, .int (nI wn), .ref mc, .ref mk, .ref m1, .ref m2, .ref ms, .int (nI dp), .ref mu, .ref mi, .ref mr, .ref mn, .ref mp, .int (nI st_), .int lo_, .int (nI im), .int (nB ex), .ref mj, .int (nI n2), .ref me, .ref mh, .int (nB ds)])), (mw, .inl (q 0, 4, .inl (fun x_ => nI (wo x_)))), (mc, .inl (q 0, 3, .inl (fun x_ => nI (ct x_)))), (mk, .inl (q 0, 384, .inl (fun x_ => nI (kd x_)))), (m1, .inl (q 0, 384, .inl (fun x_ => nI (on x_)))), (m2, .inl (q 0, 384, .inl (fun x_ => nI (tw x_)))), (ms, .inl (q 0, 1152, .inl se)), (mj, .inl (q 0, 24, .inl (fun x_ => nI (s2 x_)))), (me, .inl (q 0, 3200, .inl e2)), (mh, .inl (q 0, 25, .inl th2))] H locs → W p l e (kz_rm 6) s m args below meth c H locs 0 0 Q (F0 m 2 ls []) := by
    intro fuel
    induction fuel with
    | zero => intro k s2 n2 e2 th2 ls H locs hme; exact absurd hme (Nat.not_lt_zero _)
    | succ fuel ih2 =>
      intro k s2 n2 e2 th2 ls H locs hme hk hv hl U
      refine lv_iload_n hx hb kd_Mo_wordOf_2 rfl (lv_at hl 0 rfl) ?_
      refine lv_iload_n hx hb kd_Mo_wordOf_3 rfl (lv_at hl 3 rfl) ?_
      refine kz_icgt X (by omega) (by omega) kd_Mo_wordOf_4 rfl (fun h4 => ?_) (fun h4 => ?_)
      · refine lv_bipush (v := (-2)) hx hb kd_Mo_wordOf_58 (by decide) ?_
        exact kz_ei hQ hA X U (((wn, wo), (s2, n2, (e2, th2)))) rfl (Or.inl ⟨by rw [hv, show n + 1 - k = 0 by omega]; rfl, rfl, rfl, rfl⟩) kd_Mo_wordOf_60
      · refine lv_aload_n hx hb kd_Mo_wordOf_7 rfl (lv_at hl 1 rfl) ?_
        refine lv_iload_n hx hb kd_Mo_wordOf_8 rfl (lv_at hl 2 rfl) ?_
        refine lv_iload_n hx hb kd_Mo_wordOf_9 rfl (lv_at hl 0 rfl) ?_
        refine kz_cVi (av := [.int (nI 2), .int (nI k)]) (rest := []) (wr := [(mw, .inl (q 0, 4, .inl (fun x_ => nI (wo x_))))]) X U hl.1 (cm_Mo_first_d l D q ho mb mt mw mc mk m1 m2 ms mu mi mr mn mp mj me mh sz ln wn dp st_ im n2 lo_ ex ds k s2 ct kd on tw NL0 NL1 se e2 th2 hct0 hct1 hN0 hN1 htab0 htab1 (by omega)) (by decide) (by decide) ⟨by decide, by decide⟩ tb_649 tb_651 tb_s44 0 rfl rfl tb_11 tb_652 kq_Mo_first [0, 2, 3, 4, 5, 6, 7, 8, 9] [1] (by decide) rfl rfl (by decide) (by decide) rfl (Nat.le_of_ble_eq_true rfl) kd_Mo_wordOf_10 (fun rv u H locs hu U => ?_)
        obtain ⟨hu1, hu2⟩ := hu
        subst hu1
        obtain ⟨o_, ho_⟩ : ∃ o_, o_ = sp_fst ((fun n w => sp_cl ((nd_all NL0).getD (NL0.length - 1) dm_eps) (wd_b n w) != sp_cl ((nd_all NL1).getD (NL1.length - 1) dm_eps) (wd_b n w)) k) (3 ^ k) 0 := ⟨_, rfl⟩
        have hu2 : ∀ w, o_ = some w → ∀ j, j < k → u.1 j = (wd_b k w).getD j 0 := fun w hw_ => hu2 w (by rw [← hw_, ho_])
        refine kz_top (y := nI (sp_o o_) + (-1)) (by rw [ho_]) ?_
        have h3k : 3 ^ k ≤ 81 := Nat.pow_le_pow_right (by omega) (show k ≤ 4 by omega)
        have hol : sp_o o_ ≤ 82 := by
            cases hq : o_ with
            | none => exact Nat.zero_le _
            | some w => have := sp_fst_lt (ho_ ▸ hq); show w + 1 ≤ 82; omega
        have U : kz_U D q s A [(ho, .inr (6, [.ref mb, .int (nI sz), .ref mt, .int (nI ln), .ref mw, .int (nI wn), .ref mc, .ref mk, .ref m1, .ref m2, .ref ms, .int (nI dp), .ref mu, .ref mi, .ref mr, .ref mn, .ref mp, .int (nI st_), .int lo_, .int (nI im), .int (nB ex), .ref mj, .int (nI k), .ref me, .ref mh, .int (nB ds)])), (mw, .inl (q 0, 4, .inl (fun x_ => nI (wo x_)))), (mc, .inl (q 0, 3, .inl (fun x_ => nI (ct x_)))), (mk, .inl (q 0, 384, .inl (fun x_ => nI (kd x_)))), (m1, .inl (q 0, 384, .inl (fun x_ => nI (on x_)))), (m2, .inl (q 0, 384, .inl (fun x_ => nI (tw x_)))), (ms, .inl (q 0, 1152, .inl se)), (mj, .inl (q 0, 24, .inl (fun x_ => nI (u.1 x_)))), (me, .inl (q 0, 3200, .inl u.2.1)), (mh, .inl (q 0, 25, .inl u.2.2))] H locs := U.sub [1, 0, 2, 3, 4, 5, 6, 7, 8, 9] (by decide) rfl
        refine kz_mlt X (by omega) kd_Mo_wordOf_13 rfl (fun h13 => ?_) (fun h13 => ?_)
        · refine lv_iinc (k := 0) (v := nI (k + 1)) hx hb kd_Mo_wordOf_52 hl rfl (nI_add k 1) (by decide) rfl (fun ls hl => ?_)
          have hl : lv_has ls 5 [(3, .int (nI (k + 1))), (0, .ref ho), (1, .int (nI 2)), (2, .int (nI n))] := hl
          refine lv_goto hx hb kd_Mo_wordOf_55 rfl ?_
          exact ih2 (k + 1) _ _ _ _ _ _ _ (by omega) (by omega) (by rw [hv, show n + 1 - k = (n + 1 - (k + 1)) + 1 by omega]; exact if_neg (by rw [← ho_, sp_o_0 h13]; decide)) (lv_sub hl [0, 1, 2, 3] rfl) U
        · refine kz_ic X 0 kd_Mo_wordOf_16 (by decide) ?_
          refine lv_istore hx hb kd_Mo_wordOf_17 hl (by decide) rfl (fun ls hl => ?_)
          have hl : lv_has ls 5 [(4, .int (nI 0)), (3, .int (nI k)), (0, .ref ho), (1, .int (nI 2)), (2, .int (nI n))] := hl
          have loop19 : ∀ (fuel : Nat) (i : Nat) (ls : Array Slot) (H : Heap) (locs : List Loc), k + 1 - i < fuel → (i ≤ k) → lv_has ls 5 [(4, .int (nI i)), (3, .int (nI k)), (0, .ref ho)] → kz_U D q s A [(ho, .inr (6, [.ref mb, .int (nI sz), .ref mt, .int (nI ln), .ref mw, .int (nI wn), .ref mc, .ref mk, .ref m1, .ref m2, .ref ms, .int (nI dp), .ref mu, .ref mi, .ref mr, .ref mn, .ref mp, .int (nI st_), .int lo_, .int (nI im), .int (nB ex), .ref mj, .int (nI k), .ref me, .ref mh, .int (nB ds)])), (mw, .inl (q 0, 4, .inl (kz_fl (fun j => nI (u.1 j)) (fun j => nI (wo j)) i))), (mc, .inl (q 0, 3, .inl (fun x_ => nI (ct x_)))), (mk, .inl (q 0, 384, .inl (fun x_ => nI (kd x_)))), (m1, .inl (q 0, 384, .inl (fun x_ => nI (on x_)))), (m2, .inl (q 0, 384, .inl (fun x_ => nI (tw x_)))), (ms, .inl (q 0, 1152, .inl se)), (mj, .inl (q 0, 24, .inl (fun x_ => nI (u.1 x_)))), (me, .inl (q 0, 3200, .inl u.2.1)), (mh, .inl (q 0, 25, .inl u.2.2))] H locs → W p l e (kz_rm 6) s m args below meth c H locs 0 0 Q (F0 m 19 ls []) := by
            intro fuel
            induction fuel with
            | zero => intro i ls H locs hme; exact absurd hme (Nat.not_lt_zero _)
            | succ fuel ih19 =>
              intro i ls H locs hme hi hl U
              refine lv_iload hx hb kd_Mo_wordOf_19 (lv_at hl 0 rfl) ?_
              refine lv_iload_n hx hb kd_Mo_wordOf_21 rfl (lv_at hl 1 rfl) ?_
              refine kz_icge X (by omega) (by omega) kd_Mo_wordOf_22 rfl (fun h22 => ?_) (fun h22 => ?_)
              · rw [show i = k by omega, kz_flN] at U
                have U : kz_U D q s A [(ho, .inr (6, [.ref mb, .int (nI sz), .ref mt, .int (nI ln), .ref mw, .int (nI wn), .ref mc, .ref mk, .ref m1, .ref m2, .ref ms, .int (nI dp), .ref mu, .ref mi, .ref mr, .ref mn, .ref mp, .int (nI st_), .int lo_, .int (nI im), .int (nB ex), .ref mj, .int (nI k), .ref me, .ref mh, .int (nB ds)])), (mw, .inl (q 0, 4, .inl (fun x_ => nI ((va_cpy u.1 wo 0 0 k) x_)))), (mc, .inl (q 0, 3, .inl (fun x_ => nI (ct x_)))), (mk, .inl (q 0, 384, .inl (fun x_ => nI (kd x_)))), (m1, .inl (q 0, 384, .inl (fun x_ => nI (on x_)))), (m2, .inl (q 0, 384, .inl (fun x_ => nI (tw x_)))), (ms, .inl (q 0, 1152, .inl se)), (mj, .inl (q 0, 24, .inl (fun x_ => nI (u.1 x_)))), (me, .inl (q 0, 3200, .inl u.2.1)), (mh, .inl (q 0, 25, .inl u.2.2))] H locs := U
                refine lv_aload_n hx hb kd_Mo_wordOf_45 rfl (lv_at hl 2 rfl) ?_
                refine lv_iload_n hx hb kd_Mo_wordOf_46 rfl (lv_at hl 1 rfl) ?_
                refine kp_Mo_178 X U 0 rfl (Nat.le_of_ble_eq_true rfl) kd_Mo_wordOf_47 (fun H locs U => ?_)
                have U : kz_U D q s A [(ho, .inr (6, [.ref mb, .int (nI sz), .ref mt, .int (nI ln), .ref mw, .int (nI k), .ref mc, .ref mk, .ref m1, .ref m2, .ref ms, .int (nI dp), .ref mu, .ref mi, .ref mr, .ref mn, .ref mp, .int (nI st_), .int lo_, .int (nI im), .int (nB ex), .ref mj, .int (nI k), .ref me, .ref mh, .int (nB ds)])), (mw, .inl (q 0, 4, .inl (fun x_ => nI ((va_cpy u.1 wo 0 0 k) x_)))), (mc, .inl (q 0, 3, .inl (fun x_ => nI (ct x_)))), (mk, .inl (q 0, 384, .inl (fun x_ => nI (kd x_)))), (m1, .inl (q 0, 384, .inl (fun x_ => nI (on x_)))), (m2, .inl (q 0, 384, .inl (fun x_ => nI (tw x_)))), (ms, .inl (q 0, 1152, .inl se)), (mj, .inl (q 0, 24, .inl (fun x_ => nI (u.1 x_)))), (me, .inl (q 0, 3200, .inl u.2.1)), (mh, .inl (q 0, 25, .inl u.2.2))] H locs := U
                refine lv_iload_n hx hb kd_Mo_wordOf_50 rfl (lv_at hl 1 rfl) ?_
                exact kz_ei hQ hA X U (((k, va_cpy u.1 wo 0 0 k), (u.1, k, u.2))) rfl (Or.inr ⟨k, o_.getD 0, by rw [hv, show n + 1 - k = (n - k) + 1 by omega]; exact (if_pos (by rw [← ho_, sp_o_p h13]; rfl)).trans (by rw [← ho_]), rfl, rfl, fun j hj => by show va_cpy u.1 wo 0 0 k j = _; rw [pk_cpy_in (by omega) (by omega)]; have := hu2 _ (sp_o_p h13) j hj; simpa using this⟩) kd_Mo_wordOf_51
              · refine lv_aload_n hx hb kd_Mo_wordOf_25 rfl (lv_at hl 2 rfl) ?_
                refine kg_Mo_16 X U 0 rfl rfl kd_Mo_wordOf_26 ?_
                refine lv_iload hx hb kd_Mo_wordOf_29 (lv_at hl 0 rfl) ?_
                refine lv_aload_n hx hb kd_Mo_wordOf_31 rfl (lv_at hl 2 rfl) ?_
                refine kg_Mo_49 X U 0 rfl rfl kd_Mo_wordOf_32 ?_
                refine lv_iload hx hb kd_Mo_wordOf_35 (lv_at hl 0 rfl) ?_
                refine kz_iald (k := i) X U 7 rfl (by omega) (by omega) kd_Mo_wordOf_37 ?_
                refine kz_top (y := nI (u.1 i)) rfl ?_
                refine kz_iast (k := i) X U 1 rfl (by omega) (by omega) kd_Mo_wordOf_38 (fun H locs U => ?_)
                have U : kz_U D q s A [(ho, .inr (6, [.ref mb, .int (nI sz), .ref mt, .int (nI ln), .ref mw, .int (nI wn), .ref mc, .ref mk, .ref m1, .ref m2, .ref ms, .int (nI dp), .ref mu, .ref mi, .ref mr, .ref mn, .ref mp, .int (nI st_), .int lo_, .int (nI im), .int (nB ex), .ref mj, .int (nI k), .ref me, .ref mh, .int (nB ds)])), (mw, .inl (q 0, 4, .inl (upd (kz_fl (fun j => nI (u.1 j)) (fun j => nI (wo j)) i) i (nI (u.1 i))))), (mc, .inl (q 0, 3, .inl (fun x_ => nI (ct x_)))), (mk, .inl (q 0, 384, .inl (fun x_ => nI (kd x_)))), (m1, .inl (q 0, 384, .inl (fun x_ => nI (on x_)))), (m2, .inl (q 0, 384, .inl (fun x_ => nI (tw x_)))), (ms, .inl (q 0, 1152, .inl se)), (mj, .inl (q 0, 24, .inl (fun x_ => nI (u.1 x_)))), (me, .inl (q 0, 3200, .inl u.2.1)), (mh, .inl (q 0, 25, .inl u.2.2))] H locs := U
                refine lv_iinc (k := 0) (v := nI (i + 1)) hx hb kd_Mo_wordOf_39 hl rfl (nI_add i 1) (by decide) rfl (fun ls hl => ?_)
                have hl : lv_has ls 5 [(4, .int (nI (i + 1))), (3, .int (nI k)), (0, .ref ho)] := hl
                refine lv_goto hx hb kd_Mo_wordOf_42 rfl ?_
                have U : kz_U D q s A [(ho, .inr (6, [.ref mb, .int (nI sz), .ref mt, .int (nI ln), .ref mw, .int (nI wn), .ref mc, .ref mk, .ref m1, .ref m2, .ref ms, .int (nI dp), .ref mu, .ref mi, .ref mr, .ref mn, .ref mp, .int (nI st_), .int lo_, .int (nI im), .int (nB ex), .ref mj, .int (nI k), .ref me, .ref mh, .int (nB ds)])), (mw, .inl (q 0, 4, .inl (kz_fl (fun j => nI (u.1 j)) (fun j => nI (wo j)) (i + 1)))), (mc, .inl (q 0, 3, .inl (fun x_ => nI (ct x_)))), (mk, .inl (q 0, 384, .inl (fun x_ => nI (kd x_)))), (m1, .inl (q 0, 384, .inl (fun x_ => nI (on x_)))), (m2, .inl (q 0, 384, .inl (fun x_ => nI (tw x_)))), (ms, .inl (q 0, 1152, .inl se)), (mj, .inl (q 0, 24, .inl (fun x_ => nI (u.1 x_)))), (me, .inl (q 0, 3200, .inl u.2.1)), (mh, .inl (q 0, 25, .inl u.2.2))] H locs := by rw [← kz_fl_s (F := fun j => nI (u.1 j)) (v := nI (u.1 i)) rfl]; exact U
                exact ih19 (i + 1) _ _ _ (by omega) (by omega) (lv_sub hl [0, 1, 2] rfl) U
          have U : kz_U D q s A [(ho, .inr (6, [.ref mb, .int (nI sz), .ref mt, .int (nI ln), .ref mw, .int (nI wn), .ref mc, .ref mk, .ref m1, .ref m2, .ref ms, .int (nI dp), .ref mu, .ref mi, .ref mr, .ref mn, .ref mp, .int (nI st_), .int lo_, .int (nI im), .int (nB ex), .ref mj, .int (nI k), .ref me, .ref mh, .int (nB ds)])), (mw, .inl (q 0, 4, .inl (kz_fl (fun j => nI (u.1 j)) (fun j => nI (wo j)) 0))), (mc, .inl (q 0, 3, .inl (fun x_ => nI (ct x_)))), (mk, .inl (q 0, 384, .inl (fun x_ => nI (kd x_)))), (m1, .inl (q 0, 384, .inl (fun x_ => nI (on x_)))), (m2, .inl (q 0, 384, .inl (fun x_ => nI (tw x_)))), (ms, .inl (q 0, 1152, .inl se)), (mj, .inl (q 0, 24, .inl (fun x_ => nI (u.1 x_)))), (me, .inl (q 0, 3200, .inl u.2.1)), (mh, .inl (q 0, 25, .inl u.2.2))] H locs := by rw [kz_fl_0]; exact U
          exact loop19 _ 0 _ _ _ (Nat.lt_succ_self _) (by omega) (lv_sub hl [0, 1, 2] rfl) U
  exact loop2 _ 0 sj en es th _ _ _ (Nat.lt_succ_self _) (by omega) rfl (lv_sub hl [0, 1, 2, 3] rfl) U

set_option maxHeartbeats 4000000 in
set_option maxRecDepth 100000 in
theorem cm_Mo_difference (l : Launch) (D : va_G) (q : Nat → ClassId) (ho mb mt mw mc mk m1 m2 ms mu mi mr mn mp mj me mh : Nat) (sz ln wn dp st_ im en : Nat) (lo_ : Int32) (ex ds : Bool) (n : Nat) (wo sj ct kd on tw : Nat → Nat) (NL0 NL1 : List nd_N) (se es th : Nat → Int32) (hct0 : ct 0 = NL0.length) (hct1 : ct 1 = NL1.length) (hN0 : 0 < NL0.length) (hN1 : 0 < NL1.length) (htab0 : nd_tab 0 NL0 kd on tw se) (htab1 : nd_tab 128 NL1 kd on tw se) (hn4 : n ≤ 4) : kz_Mi (S := (Nat × (Nat → Nat)) × ((Nat → Nat) × Nat × ((Nat → Int32) × (Nat → Int32)))) l ky_Mo_difference kb_Mo_difference 2 (some .int) 7 D q [.ref ho, .int (nI n)] [(ho, .inr (6, [.ref mb, .int (nI sz), .ref mt, .int (nI ln), .ref mw, .int (nI wn), .ref mc, .ref mk, .ref m1, .ref m2, .ref ms, .int (nI dp), .ref mu, .ref mi, .ref mr, .ref mn, .ref mp, .int (nI st_), .int lo_, .int (nI im), .int (nB ex), .ref mj, .int (nI en), .ref me, .ref mh, .int (nB ds)])), (mw, .inl (q 0, 4, .inl (fun x_ => nI (wo x_)))), (mc, .inl (q 0, 3, .inl (fun x_ => nI (ct x_)))), (mk, .inl (q 0, 384, .inl (fun x_ => nI (kd x_)))), (m1, .inl (q 0, 384, .inl (fun x_ => nI (on x_)))), (m2, .inl (q 0, 384, .inl (fun x_ => nI (tw x_)))), (ms, .inl (q 0, 1152, .inl se)), (mj, .inl (q 0, 24, .inl (fun x_ => nI (sj x_)))), (me, .inl (q 0, 3200, .inl es)), (mh, .inl (q 0, 25, .inl th))] (fun r u => sp_wk (sp_wd (fun n w => sp_cl ((nd_all NL0).getD (NL0.length - 1) dm_eps) (wd_b n w) != sp_cl ((nd_all NL1).getD (NL1.length - 1) dm_eps) (wd_b n w)) (n + 1) 0) wn wo r u.1.1 u.1.2) (fun u => [(ho, .inr (6, [.ref mb, .int (nI sz), .ref mt, .int (nI ln), .ref mw, .int (nI u.1.1), .ref mc, .ref mk, .ref m1, .ref m2, .ref ms, .int (nI dp), .ref mu, .ref mi, .ref mr, .ref mn, .ref mp, .int (nI st_), .int lo_, .int (nI im), .int (nB ex), .ref mj, .int (nI u.2.2.1), .ref me, .ref mh, .int (nB ds)])), (mw, .inl (q 0, 4, .inl (fun x_ => nI (u.1.2 x_)))), (mc, .inl (q 0, 3, .inl (fun x_ => nI (ct x_)))), (mk, .inl (q 0, 384, .inl (fun x_ => nI (kd x_)))), (m1, .inl (q 0, 384, .inl (fun x_ => nI (on x_)))), (m2, .inl (q 0, 384, .inl (fun x_ => nI (tw x_)))), (ms, .inl (q 0, 1152, .inl se)), (mj, .inl (q 0, 24, .inl (fun x_ => nI (u.2.1 x_)))), (me, .inl (q 0, 3200, .inl u.2.2.2.1)), (mh, .inl (q 0, 25, .inl u.2.2.2.2))]) := by
  intro sz_
  refine kz_go (by decide +kernel) (Nat.le_of_ble_eq_true rfl) ?_
  intro p e s m below meth c ls args A Q H locs hQ hA X U hl
  have hx := X.1
  have hb := X.2.1
  have hl : lv_has ls 2 [(0, .ref ho), (1, .int (nI n))] := hl
  refine lv_iload_n hx hb kd_Mo_difference_0 rfl (lv_at hl 1 rfl) ?_
  refine kz_nlt X (by omega) kd_Mo_difference_1 ?_
  refine lv_iload_n hx hb kd_Mo_difference_4 rfl (lv_at hl 1 rfl) ?_
  refine kz_ic X 4 kd_Mo_difference_5 (by decide) ?_
  refine kz_icle X (by omega) (by omega) kd_Mo_difference_6 rfl (fun h6 => ?_) (fun h6 => absurd h6 (by omega))
  refine lv_aload_n hx hb kd_Mo_difference_13 rfl (lv_at hl 0 rfl) ?_
  refine kz_ic X 2 kd_Mo_difference_14 (by decide) ?_
  refine lv_iload_n hx hb kd_Mo_difference_15 rfl (lv_at hl 1 rfl) ?_
  refine kz_cVi (av := [.int (nI 2), .int (nI n)]) (rest := []) (wr := []) X U hl.1 (cm_Mo_wordOf_d l D q ho mb mt mw mc mk m1 m2 ms mu mi mr mn mp mj me mh sz ln wn dp st_ im en lo_ ex ds n wo sj ct kd on tw NL0 NL1 se es th hct0 hct1 hN0 hN1 htab0 htab1 hn4) (by decide) (by decide) ⟨by decide, by decide⟩ tb_645 tb_647 tb_s43 0 rfl rfl tb_11 tb_648 kq_Mo_wordOf [0, 1, 2, 3, 4, 5, 6, 7, 8, 9] [] (by decide) rfl rfl (by decide) (by decide) rfl (Nat.le_of_ble_eq_true rfl) kd_Mo_difference_16 (fun rv u H locs hu U => ?_)
  have U : kz_U D q s A [(ho, .inr (6, [.ref mb, .int (nI sz), .ref mt, .int (nI ln), .ref mw, .int (nI u.1.1), .ref mc, .ref mk, .ref m1, .ref m2, .ref ms, .int (nI dp), .ref mu, .ref mi, .ref mr, .ref mn, .ref mp, .int (nI st_), .int lo_, .int (nI im), .int (nB ex), .ref mj, .int (nI u.2.2.1), .ref me, .ref mh, .int (nB ds)])), (mw, .inl (q 0, 4, .inl (fun x_ => nI (u.1.2 x_)))), (mc, .inl (q 0, 3, .inl (fun x_ => nI (ct x_)))), (mk, .inl (q 0, 384, .inl (fun x_ => nI (kd x_)))), (m1, .inl (q 0, 384, .inl (fun x_ => nI (on x_)))), (m2, .inl (q 0, 384, .inl (fun x_ => nI (tw x_)))), (ms, .inl (q 0, 1152, .inl se)), (mj, .inl (q 0, 24, .inl (fun x_ => nI (u.2.1 x_)))), (me, .inl (q 0, 3200, .inl u.2.2.2.1)), (mh, .inl (q 0, 25, .inl u.2.2.2.2))] H locs := U
  exact kz_ei hQ hA X U u rfl (hu) kd_Mo_difference_19
