def mo_M (mo_ : Nat) : Nat := if mo_ < 10 then mo_ + 1 else 0
theorem mo_rep_some {en : Nat} {t : Nat → Nat} {i lo mo_ c : Nat} {B : dm_L} {x : Int32} (h10 : mo_ < 10) (hlo : lo ≤ mo_) (hc : c = mo_) (h : mo_at en t i (dm_cat (dm_pow B lo) (dm_pow (dm_or B dm_eps) (c - lo))) x) : mo_at en t i (dm_rep B lo (mo_M mo_)) x := by
  subst hc
  rw [show mo_M c = lo + (c - lo) + 1 by unfold mo_M; rw [if_pos h10]; omega, dm_rep_some]
  exact h
theorem mo_rep_many {en : Nat} {t : Nat → Nat} {i lo mo_ c : Nat} {B : dm_L} {x : Int32} {th : Nat → Int32} (hi : i ≤ en) (h10 : ¬ mo_ < 10) (hc : c = lo) (h : mo_at en t i (dm_cat (dm_pow B lo) (dm_pow (dm_or B dm_eps) (c - lo))) x) (hs : mo_is en t (dm_star B) th) : mo_at en t i (dm_rep B lo (mo_M mo_)) (mo_fr x th i (en + 1 - i)) := by
  subst hc
  rw [Nat.sub_self, show dm_pow (dm_or B dm_eps) 0 = dm_eps from rfl, dm_cat_eps] at h
  rw [show mo_M mo_ = 0 by unfold mo_M; rw [if_neg h10], dm_rep_many]
  exact mo_fr_at hi h hs
theorem mo_upd_in {en : Nat} {t : Nat → Nat} {k i : Nat} {e2 : Nat → Int32} {v : Int32} {C : dm_L} (h : ∀ j, j < i → mo_at en t j C (e2 (25 * k + j))) (hv : mo_at en t i C v) : ∀ j, j < i + 1 → mo_at en t j C (upd e2 (25 * k + i) v (25 * k + j)) := by
  intro j hj
  by_cases e : j = i
  · subst e; rw [pk_us]; exact hv
  · rw [pk_un (by omega)]; exact h j (by omega)
theorem mo_is_congr {en : Nat} {t : Nat → Nat} {A : dm_L} {f g : Nat → Int32} (h : mo_is en t A f) (e : ∀ i, i ≤ en → g i = f i) : mo_is en t A g := fun i hi => by rw [e i hi]; exact h i hi

set_option maxHeartbeats 4000000 in
set_option maxRecDepth 100000 in
theorem cm_Mo_times (l : Launch) (D : va_G) (q : Nat → ClassId) (ho mb mt mw mc mk m1 m2 ms mu mi mr mn mp mj me mh : Nat) (sz ln wn dp st_ im en : Nat) (lo_ : Int32) (ex ds : Bool) (k nd lo mo_ : Nat) (t : Nat → Nat) (es th : Nat → Int32) (hk : k < 128) (hnk : nd < k) (hen : en ≤ 24) (hlo : lo < 10) (hmo : mo_ ≤ 10) (hlm : mo_ < 10 → lo ≤ mo_) : kz_Mv (S := (Nat → Int32) × (Nat → Int32)) l ky_Mo_times kb_Mo_times 9 1 D q [.ref ho, .int (nI k), .int (nI nd), .int (nI lo), .int (nI mo_)] [(ho, .inr (6, [.ref mb, .int (nI sz), .ref mt, .int (nI ln), .ref mw, .int (nI wn), .ref mc, .ref mk, .ref m1, .ref m2, .ref ms, .int (nI dp), .ref mu, .ref mi, .ref mr, .ref mn, .ref mp, .int (nI st_), .int lo_, .int (nI im), .int (nB ex), .ref mj, .int (nI en), .ref me, .ref mh, .int (nB ds)])), (me, .inl (q 0, 3200, .inl es)), (mh, .inl (q 0, 25, .inl th))] (fun u => (∀ j, (j < 25 * k ∨ 25 * k + 25 ≤ j) → u.1 j = es j) ∧ ∀ B, mo_is en t B (fun j => es (25 * nd + j)) → mo_is en t (dm_rep B lo (mo_M mo_)) (fun j => u.1 (25 * k + j))) (fun u => [(ho, .inr (6, [.ref mb, .int (nI sz), .ref mt, .int (nI ln), .ref mw, .int (nI wn), .ref mc, .ref mk, .ref m1, .ref m2, .ref ms, .int (nI dp), .ref mu, .ref mi, .ref mr, .ref mn, .ref mp, .int (nI st_), .int lo_, .int (nI im), .int (nB ex), .ref mj, .int (nI en), .ref me, .ref mh, .int (nB ds)])), (me, .inl (q 0, 3200, .inl u.1)), (mh, .inl (q 0, 25, .inl u.2))]) := by
  intro sz_
  refine kz_go (by decide +kernel) (Nat.le_of_ble_eq_true rfl) ?_
  intro p e s m below meth c ls args A Q H locs hQ hA X U hl
  have hx := X.1
  have hb := X.2.1
  have hl : lv_has ls 9 [(0, .ref ho), (1, .int (nI k)), (2, .int (nI nd)), (3, .int (nI lo)), (4, .int (nI mo_))] := hl
  refine lv_aload_n hx hb kd_Mo_times_0 rfl (lv_at hl 0 rfl) ?_
  refine lv_iload_n hx hb kd_Mo_times_1 rfl (lv_at hl 2 rfl) ?_
  refine kz_cVv (av := [.int (nI nd)]) (rest := []) (wr := []) X U hl.1 (cm_Mo_again l D q ho mb mt mw mc mk m1 m2 ms mu mi mr mn mp mj me mh sz ln wn dp st_ im en lo_ ex ds nd es th (by omega) hen) (by decide) (by decide) ⟨by decide, by decide⟩ tb_614 tb_616 tb_s40 0 rfl rfl tb_11 tb_617 kq_Mo_again [0, 1, 2] [] (by decide) rfl rfl (by decide) (by decide) rfl (Nat.le_of_ble_eq_true rfl) kd_Mo_times_2 (fun th2 H locs hth U => ?_)
  have U : kz_U D q s A [(ho, .inr (6, [.ref mb, .int (nI sz), .ref mt, .int (nI ln), .ref mw, .int (nI wn), .ref mc, .ref mk, .ref m1, .ref m2, .ref ms, .int (nI dp), .ref mu, .ref mi, .ref mr, .ref mn, .ref mp, .int (nI st_), .int lo_, .int (nI im), .int (nB ex), .ref mj, .int (nI en), .ref me, .ref mh, .int (nB ds)])), (me, .inl (q 0, 3200, .inl es)), (mh, .inl (q 0, 25, .inl th2))] H locs := U
  refine kz_ic X 0 kd_Mo_times_5 (by decide) ?_
  refine lv_istore hx hb kd_Mo_times_6 hl (by decide) rfl (fun ls hl => ?_)
  have hl : lv_has ls 9 [(5, .int (nI 0)), (0, .ref ho), (1, .int (nI k)), (2, .int (nI nd)), (3, .int (nI lo)), (4, .int (nI mo_))] := hl
  have loop8 : ∀ (fuel : Nat) (i : Nat) (e2 : Nat → Int32) (ls : Array Slot) (H : Heap) (locs : List Loc), en + 2 - i < fuel → (i ≤ en + 1) → (∀ j, (j < 25 * k ∨ 25 * k + 25 ≤ j) → e2 j = es j) → (∀ B, mo_is en t B (fun j => es (25 * nd + j)) → ∀ j, j < i → mo_at en t j (dm_rep B lo (mo_M mo_)) (e2 (25 * k + j))) → lv_has ls 9 [(5, .int (nI i)), (0, .ref ho), (1, .int (nI k)), (2, .int (nI nd)), (3, .int (nI lo)), (4, .int (nI mo_))] → kz_U D q s A [(ho, .inr (6, [.ref mb, .int (nI sz), .ref mt, .int (nI ln), .ref mw, .int (nI wn), .ref mc, .ref mk, .ref m1, .ref m2, .ref ms, .int (nI dp), .ref mu, .ref mi, .ref mr, .ref mn, .ref mp, .int (nI st_), .int lo_, .int (nI im), .int (nB ex), .ref mj, .int (nI en), .ref me, .ref mh, .int (nB ds)])), (me, .inl (q 0, 3200, .inl e2)), (mh, .inl (q 0, 25, .inl th2))] H locs → W p l e (kz_rm 1) s m args below meth c H locs 0 0 Q (F0 m 8 ls []) := by
    intro fuel
    induction fuel with
    | zero => intro i e2 ls H locs hme; exact absurd hme (Nat.not_lt_zero _)
    | succ fuel ih8 =>
      intro i e2 ls H locs hme hi hout hin hl U
      refine lv_iload hx hb kd_Mo_times_8 (lv_at hl 0 rfl) ?_
      refine lv_aload_n hx hb kd_Mo_times_10 rfl (lv_at hl 1 rfl) ?_
      refine kg_Mo_142 X U 0 rfl rfl kd_Mo_times_11 ?_
      refine kz_icgt X (by omega) (by omega) kd_Mo_times_14 rfl (fun h14 => ?_) (fun h14 => ?_)
      · exact kz_ev hQ hA X U ((e2, th2)) rfl (⟨hout, fun B hB j hj => hin B hB j (by omega)⟩) kd_Mo_times_164
      · have hE : ∀ B, mo_is en t B (fun j => es (25 * nd + j)) → mo_is en t B (fun j => e2 (25 * nd + j)) := fun B hB => mo_is_congr hB (fun j hj => hout (25 * nd + j) (Or.inl (by omega)))
        refine kz_ic X 1 kd_Mo_times_17 (by decide) ?_
        refine lv_iload hx hb kd_Mo_times_18 (lv_at hl 0 rfl) ?_
        refine lv_ishl hx hb kd_Mo_times_20 ?_
        refine lv_istore hx hb kd_Mo_times_21 hl (by decide) rfl (fun ls hl => ?_)
        have hl : lv_has ls 9 [(6, .int ((nI 1) <<< ((nI i) &&& 31))), (5, .int (nI i)), (0, .ref ho), (1, .int (nI k)), (2, .int (nI nd)), (3, .int (nI lo)), (4, .int (nI mo_))] := hl
        refine kz_ic X 0 kd_Mo_times_23 (by decide) ?_
        refine lv_istore hx hb kd_Mo_times_24 hl (by decide) rfl (fun ls hl => ?_)
        have hl : lv_has ls 9 [(7, .int (nI 0)), (6, .int ((nI 1) <<< ((nI i) &&& 31))), (5, .int (nI i)), (0, .ref ho), (1, .int (nI k)), (2, .int (nI nd)), (3, .int (nI lo)), (4, .int (nI mo_))] := hl
        have loop26 : ∀ (fuel : Nat) (c_ : Nat) (a_ : Int32) (ls : Array Slot) (H : Heap) (locs : List Loc), lo + 1 - c_ < fuel → (c_ ≤ lo) → (∀ B, mo_is en t B (fun j => es (25 * nd + j)) → mo_at en t i (dm_pow B c_) a_) → lv_has ls 9 [(7, .int (nI c_)), (6, .int a_), (5, .int (nI i)), (0, .ref ho), (1, .int (nI k)), (2, .int (nI nd)), (3, .int (nI lo)), (4, .int (nI mo_))] → kz_U D q s A [(ho, .inr (6, [.ref mb, .int (nI sz), .ref mt, .int (nI ln), .ref mw, .int (nI wn), .ref mc, .ref mk, .ref m1, .ref m2, .ref ms, .int (nI dp), .ref mu, .ref mi, .ref mr, .ref mn, .ref mp, .int (nI st_), .int lo_, .int (nI im), .int (nB ex), .ref mj, .int (nI en), .ref me, .ref mh, .int (nB ds)])), (me, .inl (q 0, 3200, .inl e2)), (mh, .inl (q 0, 25, .inl th2))] H locs → W p l e (kz_rm 1) s m args below meth c H locs 0 0 Q (F0 m 26 ls []) := by
          intro fuel
          induction fuel with
          | zero => intro c_ a_ ls H locs hme; exact absurd hme (Nat.not_lt_zero _)
          | succ fuel ih26 =>
            intro c_ a_ ls H locs hme hc ha hl U
            refine lv_iload hx hb kd_Mo_times_26 (lv_at hl 0 rfl) ?_
            refine lv_iload_n hx hb kd_Mo_times_28 rfl (lv_at hl 6 rfl) ?_
            refine kz_icge X (by omega) (by omega) kd_Mo_times_29 rfl (fun h29 => ?_) (fun h29 => ?_)
            · refine lv_iload_n hx hb kd_Mo_times_47 rfl (lv_at hl 6 rfl) ?_
              refine lv_istore hx hb kd_Mo_times_48 hl (by decide) rfl (fun ls hl => ?_)
              have hl : lv_has ls 9 [(7, .int (nI lo)), (6, .int a_), (5, .int (nI i)), (0, .ref ho), (1, .int (nI k)), (2, .int (nI nd)), (3, .int (nI lo)), (4, .int (nI mo_))] := hl
              have loop50 : ∀ (fuel : Nat) (c2 : Nat) (a2 : Int32) (ls : Array Slot) (H : Heap) (locs : List Loc), 20 - c2 < fuel → (lo ≤ c2) → (mo_ < 10 → c2 ≤ mo_) → (¬ mo_ < 10 → c2 = lo) → (∀ B, mo_is en t B (fun j => es (25 * nd + j)) → mo_at en t i (dm_cat (dm_pow B lo) (dm_pow (dm_or B dm_eps) (c2 - lo))) a2) → lv_has ls 9 [(7, .int (nI c2)), (6, .int a2), (5, .int (nI i)), (0, .ref ho), (1, .int (nI k)), (2, .int (nI nd)), (3, .int (nI lo)), (4, .int (nI mo_))] → kz_U D q s A [(ho, .inr (6, [.ref mb, .int (nI sz), .ref mt, .int (nI ln), .ref mw, .int (nI wn), .ref mc, .ref mk, .ref m1, .ref m2, .ref ms, .int (nI dp), .ref mu, .ref mi, .ref mr, .ref mn, .ref mp, .int (nI st_), .int lo_, .int (nI im), .int (nB ex), .ref mj, .int (nI en), .ref me, .ref mh, .int (nB ds)])), (me, .inl (q 0, 3200, .inl e2)), (mh, .inl (q 0, 25, .inl th2))] H locs → W p l e (kz_rm 1) s m args below meth c H locs 0 0 Q (F0 m 50 ls []) := by
                intro fuel
                induction fuel with
                | zero => intro c2 a2 ls H locs hme; exact absurd hme (Nat.not_lt_zero _)
                | succ fuel ih50 =>
                  intro c2 a2 ls H locs hme hc1 hc9 hc10 ha2 hl U
                  refine lv_iload hx hb kd_Mo_times_50 (lv_at hl 0 rfl) ?_
                  refine lv_iload hx hb kd_Mo_times_52 (lv_at hl 7 rfl) ?_
                  refine kz_icge X (by omega) (by omega) kd_Mo_times_54 rfl (fun h54 => ?_) (fun h54 => ?_)
                  · refine kz_ic X 0 kd_Mo_times_82 (by decide) ?_
                    refine lv_istore hx hb kd_Mo_times_83 hl (by decide) rfl (fun ls hl => ?_)
                    have hl : lv_has ls 9 [(7, .int (nI 0)), (6, .int a2), (5, .int (nI i)), (0, .ref ho), (1, .int (nI k)), (2, .int (nI nd)), (3, .int (nI lo)), (4, .int (nI mo_))] := hl
                    refine lv_iload hx hb kd_Mo_times_85 (lv_at hl 2 rfl) ?_
                    refine lv_istore hx hb kd_Mo_times_87 hl (by decide) rfl (fun ls hl => ?_)
                    have hl : lv_has ls 9 [(8, .int (nI i)), (7, .int (nI 0)), (6, .int a2), (5, .int (nI i)), (0, .ref ho), (1, .int (nI k)), (2, .int (nI nd)), (3, .int (nI lo)), (4, .int (nI mo_))] := hl
                    have loop89 : ∀ (fuel : Nat) (c3 : Nat) (ls : Array Slot) (H : Heap) (locs : List Loc), en + 2 - c3 < fuel → (c3 ≤ en + 1 - i) → lv_has ls 9 [(8, .int (nI (i + c3))), (7, .int (mo_fr a2 th2 i c3)), (6, .int a2), (5, .int (nI i)), (0, .ref ho), (1, .int (nI k)), (2, .int (nI nd)), (3, .int (nI lo)), (4, .int (nI mo_))] → kz_U D q s A [(ho, .inr (6, [.ref mb, .int (nI sz), .ref mt, .int (nI ln), .ref mw, .int (nI wn), .ref mc, .ref mk, .ref m1, .ref m2, .ref ms, .int (nI dp), .ref mu, .ref mi, .ref mr, .ref mn, .ref mp, .int (nI st_), .int lo_, .int (nI im), .int (nB ex), .ref mj, .int (nI en), .ref me, .ref mh, .int (nB ds)])), (me, .inl (q 0, 3200, .inl e2)), (mh, .inl (q 0, 25, .inl th2))] H locs → W p l e (kz_rm 1) s m args below meth c H locs 0 0 Q (F0 m 89 ls []) := by
                      intro fuel
                      induction fuel with
                      | zero => intro c3 ls H locs hme; exact absurd hme (Nat.not_lt_zero _)
                      | succ fuel ih89 =>
                        intro c3 ls H locs hme hc3 hl U
                        refine lv_iload hx hb kd_Mo_times_89 (lv_at hl 0 rfl) ?_
                        refine lv_aload_n hx hb kd_Mo_times_91 rfl (lv_at hl 4 rfl) ?_
                        refine kg_Mo_142 X U 0 rfl rfl kd_Mo_times_92 ?_
                        refine kz_icgt X (by omega) (by omega) kd_Mo_times_95 rfl (fun h95 => ?_) (fun h95 => ?_)
                        · refine lv_aload_n hx hb kd_Mo_times_132 rfl (lv_at hl 4 rfl) ?_
                          refine kg_Mo_52 X U 0 rfl rfl kd_Mo_times_133 ?_
                          refine kz_bp X 25 kd_Mo_times_136 (by decide) ?_
                          refine lv_iload_n hx hb kd_Mo_times_138 rfl (lv_at hl 5 rfl) ?_
                          refine kz_imul X kd_Mo_times_139 ?_
                          refine kz_top (y := nI (25 * k)) rfl ?_
                          refine lv_iload hx hb kd_Mo_times_140 (lv_at hl 3 rfl) ?_
                          refine kz_iadd X kd_Mo_times_142 ?_
                          refine kz_top (y := nI (25 * k + i)) rfl ?_
                          refine lv_iload hx hb kd_Mo_times_143 (lv_at hl 8 rfl) ?_
                          refine kz_bp X 10 kd_Mo_times_145 (by decide) ?_
                          refine kz_icge X (by omega) (by omega) kd_Mo_times_147 rfl (fun h147 => ?_) (fun h147 => ?_)
                          · refine lv_iload hx hb kd_Mo_times_155 (lv_at hl 1 rfl) ?_
                            refine kz_iast (k := 25 * k + i) X U 1 rfl (by omega) (by omega) kd_Mo_times_157 (fun H locs U => ?_)
                            have U : kz_U D q s A [(ho, .inr (6, [.ref mb, .int (nI sz), .ref mt, .int (nI ln), .ref mw, .int (nI wn), .ref mc, .ref mk, .ref m1, .ref m2, .ref ms, .int (nI dp), .ref mu, .ref mi, .ref mr, .ref mn, .ref mp, .int (nI st_), .int lo_, .int (nI im), .int (nB ex), .ref mj, .int (nI en), .ref me, .ref mh, .int (nB ds)])), (me, .inl (q 0, 3200, .inl (upd e2 (25 * k + i) (mo_fr a2 th2 i c3)))), (mh, .inl (q 0, 25, .inl th2))] H locs := U
                            refine lv_iinc (k := 3) (v := nI (i + 1)) hx hb kd_Mo_times_158 hl rfl (nI_add i 1) (by decide) rfl (fun ls hl => ?_)
                            have hl : lv_has ls 9 [(5, .int (nI (i + 1))), (8, .int (nI (i + c3))), (7, .int (mo_fr a2 th2 i c3)), (6, .int a2), (0, .ref ho), (1, .int (nI k)), (2, .int (nI nd)), (3, .int (nI lo)), (4, .int (nI mo_))] := hl
                            refine lv_goto hx hb kd_Mo_times_161 rfl ?_
                            exact ih8 (i + 1) _ _ _ _ (by omega) (by omega) (fun j hj => by rw [pk_un (by omega)]; exact hout j hj) (fun B hB => mo_upd_in (hin B hB) (by first | exact mo_rep_some h147 (hlm h147) (by omega) (ha2 B hB) | (rw [show c3 = en + 1 - i by omega]; exact mo_rep_many (by omega) (by omega) (hc10 (by omega)) (ha2 B hB) (mo_star_is hen hB hth)))) (lv_sub hl [0, 4, 5, 6, 7, 8] rfl) U
                          · refine lv_iload hx hb kd_Mo_times_150 (lv_at hl 2 rfl) ?_
                            refine lv_goto hx hb kd_Mo_times_152 rfl ?_
                            refine kz_iast (k := 25 * k + i) X U 1 rfl (by omega) (by omega) kd_Mo_times_157 (fun H locs U => ?_)
                            have U : kz_U D q s A [(ho, .inr (6, [.ref mb, .int (nI sz), .ref mt, .int (nI ln), .ref mw, .int (nI wn), .ref mc, .ref mk, .ref m1, .ref m2, .ref ms, .int (nI dp), .ref mu, .ref mi, .ref mr, .ref mn, .ref mp, .int (nI st_), .int lo_, .int (nI im), .int (nB ex), .ref mj, .int (nI en), .ref me, .ref mh, .int (nB ds)])), (me, .inl (q 0, 3200, .inl (upd e2 (25 * k + i) a2))), (mh, .inl (q 0, 25, .inl th2))] H locs := U
                            refine lv_iinc (k := 3) (v := nI (i + 1)) hx hb kd_Mo_times_158 hl rfl (nI_add i 1) (by decide) rfl (fun ls hl => ?_)
                            have hl : lv_has ls 9 [(5, .int (nI (i + 1))), (8, .int (nI (i + c3))), (7, .int (mo_fr a2 th2 i c3)), (6, .int a2), (0, .ref ho), (1, .int (nI k)), (2, .int (nI nd)), (3, .int (nI lo)), (4, .int (nI mo_))] := hl
                            refine lv_goto hx hb kd_Mo_times_161 rfl ?_
                            exact ih8 (i + 1) _ _ _ _ (by omega) (by omega) (fun j hj => by rw [pk_un (by omega)]; exact hout j hj) (fun B hB => mo_upd_in (hin B hB) (by first | exact mo_rep_some h147 (hlm h147) (by omega) (ha2 B hB) | (rw [show c3 = en + 1 - i by omega]; exact mo_rep_many (by omega) (by omega) (hc10 (by omega)) (ha2 B hB) (mo_star_is hen hB hth)))) (lv_sub hl [0, 4, 5, 6, 7, 8] rfl) U
                        · refine lv_iload hx hb kd_Mo_times_98 (lv_at hl 2 rfl) ?_
                          refine lv_iload hx hb kd_Mo_times_100 (lv_at hl 0 rfl) ?_
                          refine lv_ishr hx hb kd_Mo_times_102 ?_
                          refine kz_ic X 1 kd_Mo_times_103 (by decide) ?_
                          refine lv_iand hx hb kd_Mo_times_104 ?_
                          refine kz_top (y := nB (bt a2 (i + c3))) (has_v _ (by omega)) ?_
                          refine kz_ic X 1 kd_Mo_times_105 (by decide) ?_
                          refine kz_icneB X kd_Mo_times_106 rfl (fun h106 => ?_) (fun h106 => ?_)
                          · refine lv_iload hx hb kd_Mo_times_122 (lv_at hl 1 rfl) ?_
                            refine lv_istore hx hb kd_Mo_times_124 hl (by decide) rfl (fun ls hl => ?_)
                            have hl : lv_has ls 9 [(7, .int (mo_fr a2 th2 i c3)), (8, .int (nI (i + c3))), (6, .int a2), (5, .int (nI i)), (0, .ref ho), (1, .int (nI k)), (2, .int (nI nd)), (3, .int (nI lo)), (4, .int (nI mo_))] := hl
                            refine lv_iinc (k := 1) (v := nI (i + c3 + 1)) hx hb kd_Mo_times_126 hl rfl (nI_add (i + c3) 1) (by decide) rfl (fun ls hl => ?_)
                            have hl : lv_has ls 9 [(8, .int (nI (i + c3 + 1))), (7, .int (mo_fr a2 th2 i c3)), (6, .int a2), (5, .int (nI i)), (0, .ref ho), (1, .int (nI k)), (2, .int (nI nd)), (3, .int (nI lo)), (4, .int (nI mo_))] := hl
                            refine lv_goto hx hb kd_Mo_times_129 rfl ?_
                            have hl : lv_has ls 9 [(8, .int (nI (i + (c3 + 1)))), (7, .int (mo_fr a2 th2 i (c3 + 1))), (6, .int a2), (5, .int (nI i)), (0, .ref ho), (1, .int (nI k)), (2, .int (nI nd)), (3, .int (nI lo)), (4, .int (nI mo_))] := by rw [show mo_fr a2 th2 i (c3 + 1) = _ from if_neg (by rw [h106]; decide)]; exact lv_sub hl [0, 1, 2, 3, 4, 5, 6, 7, 8] rfl
                            exact ih89 (c3 + 1) _ _ _ (by omega) (by omega) hl U
                          · refine lv_iload hx hb kd_Mo_times_109 (lv_at hl 1 rfl) ?_
                            refine lv_aload_n hx hb kd_Mo_times_111 rfl (lv_at hl 4 rfl) ?_
                            refine kg_Mo_55 X U 0 rfl rfl kd_Mo_times_112 ?_
                            refine lv_iload hx hb kd_Mo_times_115 (lv_at hl 0 rfl) ?_
                            refine kz_iald (k := i + c3) X U 2 rfl (by omega) (by omega) kd_Mo_times_117 ?_
                            refine lv_ior hx hb kd_Mo_times_118 ?_
                            refine lv_goto hx hb kd_Mo_times_119 rfl ?_
                            refine lv_istore hx hb kd_Mo_times_124 hl (by decide) rfl (fun ls hl => ?_)
                            have hl : lv_has ls 9 [(7, .int ((mo_fr a2 th2 i c3) ||| (th2 (i + c3)))), (8, .int (nI (i + c3))), (6, .int a2), (5, .int (nI i)), (0, .ref ho), (1, .int (nI k)), (2, .int (nI nd)), (3, .int (nI lo)), (4, .int (nI mo_))] := hl
                            refine lv_iinc (k := 1) (v := nI (i + c3 + 1)) hx hb kd_Mo_times_126 hl rfl (nI_add (i + c3) 1) (by decide) rfl (fun ls hl => ?_)
                            have hl : lv_has ls 9 [(8, .int (nI (i + c3 + 1))), (7, .int ((mo_fr a2 th2 i c3) ||| (th2 (i + c3)))), (6, .int a2), (5, .int (nI i)), (0, .ref ho), (1, .int (nI k)), (2, .int (nI nd)), (3, .int (nI lo)), (4, .int (nI mo_))] := hl
                            refine lv_goto hx hb kd_Mo_times_129 rfl ?_
                            have hl : lv_has ls 9 [(8, .int (nI (i + (c3 + 1)))), (7, .int (mo_fr a2 th2 i (c3 + 1))), (6, .int a2), (5, .int (nI i)), (0, .ref ho), (1, .int (nI k)), (2, .int (nI nd)), (3, .int (nI lo)), (4, .int (nI mo_))] := by rw [show mo_fr a2 th2 i (c3 + 1) = _ from if_pos h106]; exact lv_sub hl [0, 1, 2, 3, 4, 5, 6, 7, 8] rfl
                            exact ih89 (c3 + 1) _ _ _ (by omega) (by omega) hl U
                    exact loop89 _ 0 _ _ _ (Nat.lt_succ_self _) (by omega) (lv_sub hl [0, 1, 2, 3, 4, 5, 6, 7, 8] rfl) U
                  · refine lv_iload hx hb kd_Mo_times_57 (lv_at hl 7 rfl) ?_
                    refine kz_bp X 10 kd_Mo_times_59 (by decide) ?_
                    refine kz_icge X (by omega) (by omega) kd_Mo_times_61 rfl (fun h61 => ?_) (fun h61 => ?_)
                    · refine kz_ic X 0 kd_Mo_times_82 (by decide) ?_
                      refine lv_istore hx hb kd_Mo_times_83 hl (by decide) rfl (fun ls hl => ?_)
                      have hl : lv_has ls 9 [(7, .int (nI 0)), (6, .int a2), (5, .int (nI i)), (0, .ref ho), (1, .int (nI k)), (2, .int (nI nd)), (3, .int (nI lo)), (4, .int (nI mo_))] := hl
                      refine lv_iload hx hb kd_Mo_times_85 (lv_at hl 2 rfl) ?_
                      refine lv_istore hx hb kd_Mo_times_87 hl (by decide) rfl (fun ls hl => ?_)
                      have hl : lv_has ls 9 [(8, .int (nI i)), (7, .int (nI 0)), (6, .int a2), (5, .int (nI i)), (0, .ref ho), (1, .int (nI k)), (2, .int (nI nd)), (3, .int (nI lo)), (4, .int (nI mo_))] := hl
                      have loop89 : ∀ (fuel : Nat) (c3 : Nat) (ls : Array Slot) (H : Heap) (locs : List Loc), en + 2 - c3 < fuel → (c3 ≤ en + 1 - i) → lv_has ls 9 [(8, .int (nI (i + c3))), (7, .int (mo_fr a2 th2 i c3)), (6, .int a2), (5, .int (nI i)), (0, .ref ho), (1, .int (nI k)), (2, .int (nI nd)), (3, .int (nI lo)), (4, .int (nI mo_))] → kz_U D q s A [(ho, .inr (6, [.ref mb, .int (nI sz), .ref mt, .int (nI ln), .ref mw, .int (nI wn), .ref mc, .ref mk, .ref m1, .ref m2, .ref ms, .int (nI dp), .ref mu, .ref mi, .ref mr, .ref mn, .ref mp, .int (nI st_), .int lo_, .int (nI im), .int (nB ex), .ref mj, .int (nI en), .ref me, .ref mh, .int (nB ds)])), (me, .inl (q 0, 3200, .inl e2)), (mh, .inl (q 0, 25, .inl th2))] H locs → W p l e (kz_rm 1) s m args below meth c H locs 0 0 Q (F0 m 89 ls []) := by
                        intro fuel
                        induction fuel with
                        | zero => intro c3 ls H locs hme; exact absurd hme (Nat.not_lt_zero _)
                        | succ fuel ih89 =>
                          intro c3 ls H locs hme hc3 hl U
                          refine lv_iload hx hb kd_Mo_times_89 (lv_at hl 0 rfl) ?_
                          refine lv_aload_n hx hb kd_Mo_times_91 rfl (lv_at hl 4 rfl) ?_
                          refine kg_Mo_142 X U 0 rfl rfl kd_Mo_times_92 ?_
                          refine kz_icgt X (by omega) (by omega) kd_Mo_times_95 rfl (fun h95 => ?_) (fun h95 => ?_)
                          · refine lv_aload_n hx hb kd_Mo_times_132 rfl (lv_at hl 4 rfl) ?_
                            refine kg_Mo_52 X U 0 rfl rfl kd_Mo_times_133 ?_
                            refine kz_bp X 25 kd_Mo_times_136 (by decide) ?_
                            refine lv_iload_n hx hb kd_Mo_times_138 rfl (lv_at hl 5 rfl) ?_
                            refine kz_imul X kd_Mo_times_139 ?_
                            refine kz_top (y := nI (25 * k)) rfl ?_
                            refine lv_iload hx hb kd_Mo_times_140 (lv_at hl 3 rfl) ?_
                            refine kz_iadd X kd_Mo_times_142 ?_
                            refine kz_top (y := nI (25 * k + i)) rfl ?_
                            refine lv_iload hx hb kd_Mo_times_143 (lv_at hl 8 rfl) ?_
                            refine kz_bp X 10 kd_Mo_times_145 (by decide) ?_
                            refine kz_icge X (by omega) (by omega) kd_Mo_times_147 rfl (fun h147 => ?_) (fun h147 => ?_)
                            · refine lv_iload hx hb kd_Mo_times_155 (lv_at hl 1 rfl) ?_
                              refine kz_iast (k := 25 * k + i) X U 1 rfl (by omega) (by omega) kd_Mo_times_157 (fun H locs U => ?_)
                              have U : kz_U D q s A [(ho, .inr (6, [.ref mb, .int (nI sz), .ref mt, .int (nI ln), .ref mw, .int (nI wn), .ref mc, .ref mk, .ref m1, .ref m2, .ref ms, .int (nI dp), .ref mu, .ref mi, .ref mr, .ref mn, .ref mp, .int (nI st_), .int lo_, .int (nI im), .int (nB ex), .ref mj, .int (nI en), .ref me, .ref mh, .int (nB ds)])), (me, .inl (q 0, 3200, .inl (upd e2 (25 * k + i) (mo_fr a2 th2 i c3)))), (mh, .inl (q 0, 25, .inl th2))] H locs := U
                              refine lv_iinc (k := 3) (v := nI (i + 1)) hx hb kd_Mo_times_158 hl rfl (nI_add i 1) (by decide) rfl (fun ls hl => ?_)
                              have hl : lv_has ls 9 [(5, .int (nI (i + 1))), (8, .int (nI (i + c3))), (7, .int (mo_fr a2 th2 i c3)), (6, .int a2), (0, .ref ho), (1, .int (nI k)), (2, .int (nI nd)), (3, .int (nI lo)), (4, .int (nI mo_))] := hl
                              refine lv_goto hx hb kd_Mo_times_161 rfl ?_
                              exact ih8 (i + 1) _ _ _ _ (by omega) (by omega) (fun j hj => by rw [pk_un (by omega)]; exact hout j hj) (fun B hB => mo_upd_in (hin B hB) (by first | exact mo_rep_some h147 (hlm h147) (by omega) (ha2 B hB) | (rw [show c3 = en + 1 - i by omega]; exact mo_rep_many (by omega) (by omega) (hc10 (by omega)) (ha2 B hB) (mo_star_is hen hB hth)))) (lv_sub hl [0, 4, 5, 6, 7, 8] rfl) U
                            · refine lv_iload hx hb kd_Mo_times_150 (lv_at hl 2 rfl) ?_
                              refine lv_goto hx hb kd_Mo_times_152 rfl ?_
                              refine kz_iast (k := 25 * k + i) X U 1 rfl (by omega) (by omega) kd_Mo_times_157 (fun H locs U => ?_)
                              have U : kz_U D q s A [(ho, .inr (6, [.ref mb, .int (nI sz), .ref mt, .int (nI ln), .ref mw, .int (nI wn), .ref mc, .ref mk, .ref m1, .ref m2, .ref ms, .int (nI dp), .ref mu, .ref mi, .ref mr, .ref mn, .ref mp, .int (nI st_), .int lo_, .int (nI im), .int (nB ex), .ref mj, .int (nI en), .ref me, .ref mh, .int (nB ds)])), (me, .inl (q 0, 3200, .inl (upd e2 (25 * k + i) a2))), (mh, .inl (q 0, 25, .inl th2))] H locs := U
                              refine lv_iinc (k := 3) (v := nI (i + 1)) hx hb kd_Mo_times_158 hl rfl (nI_add i 1) (by decide) rfl (fun ls hl => ?_)
                              have hl : lv_has ls 9 [(5, .int (nI (i + 1))), (8, .int (nI (i + c3))), (7, .int (mo_fr a2 th2 i c3)), (6, .int a2), (0, .ref ho), (1, .int (nI k)), (2, .int (nI nd)), (3, .int (nI lo)), (4, .int (nI mo_))] := hl
                              refine lv_goto hx hb kd_Mo_times_161 rfl ?_
                              exact ih8 (i + 1) _ _ _ _ (by omega) (by omega) (fun j hj => by rw [pk_un (by omega)]; exact hout j hj) (fun B hB => mo_upd_in (hin B hB) (by first | exact mo_rep_some h147 (hlm h147) (by omega) (ha2 B hB) | (rw [show c3 = en + 1 - i by omega]; exact mo_rep_many (by omega) (by omega) (hc10 (by omega)) (ha2 B hB) (mo_star_is hen hB hth)))) (lv_sub hl [0, 4, 5, 6, 7, 8] rfl) U
                          · refine lv_iload hx hb kd_Mo_times_98 (lv_at hl 2 rfl) ?_
                            refine lv_iload hx hb kd_Mo_times_100 (lv_at hl 0 rfl) ?_
                            refine lv_ishr hx hb kd_Mo_times_102 ?_
                            refine kz_ic X 1 kd_Mo_times_103 (by decide) ?_
                            refine lv_iand hx hb kd_Mo_times_104 ?_
                            refine kz_top (y := nB (bt a2 (i + c3))) (has_v _ (by omega)) ?_
                            refine kz_ic X 1 kd_Mo_times_105 (by decide) ?_
                            refine kz_icneB X kd_Mo_times_106 rfl (fun h106 => ?_) (fun h106 => ?_)
                            · refine lv_iload hx hb kd_Mo_times_122 (lv_at hl 1 rfl) ?_
                              refine lv_istore hx hb kd_Mo_times_124 hl (by decide) rfl (fun ls hl => ?_)
                              have hl : lv_has ls 9 [(7, .int (mo_fr a2 th2 i c3)), (8, .int (nI (i + c3))), (6, .int a2), (5, .int (nI i)), (0, .ref ho), (1, .int (nI k)), (2, .int (nI nd)), (3, .int (nI lo)), (4, .int (nI mo_))] := hl
                              refine lv_iinc (k := 1) (v := nI (i + c3 + 1)) hx hb kd_Mo_times_126 hl rfl (nI_add (i + c3) 1) (by decide) rfl (fun ls hl => ?_)
                              have hl : lv_has ls 9 [(8, .int (nI (i + c3 + 1))), (7, .int (mo_fr a2 th2 i c3)), (6, .int a2), (5, .int (nI i)), (0, .ref ho), (1, .int (nI k)), (2, .int (nI nd)), (3, .int (nI lo)), (4, .int (nI mo_))] := hl
                              refine lv_goto hx hb kd_Mo_times_129 rfl ?_
                              have hl : lv_has ls 9 [(8, .int (nI (i + (c3 + 1)))), (7, .int (mo_fr a2 th2 i (c3 + 1))), (6, .int a2), (5, .int (nI i)), (0, .ref ho), (1, .int (nI k)), (2, .int (nI nd)), (3, .int (nI lo)), (4, .int (nI mo_))] := by rw [show mo_fr a2 th2 i (c3 + 1) = _ from if_neg (by rw [h106]; decide)]; exact lv_sub hl [0, 1, 2, 3, 4, 5, 6, 7, 8] rfl
                              exact ih89 (c3 + 1) _ _ _ (by omega) (by omega) hl U
                            · refine lv_iload hx hb kd_Mo_times_109 (lv_at hl 1 rfl) ?_
                              refine lv_aload_n hx hb kd_Mo_times_111 rfl (lv_at hl 4 rfl) ?_
                              refine kg_Mo_55 X U 0 rfl rfl kd_Mo_times_112 ?_
                              refine lv_iload hx hb kd_Mo_times_115 (lv_at hl 0 rfl) ?_
                              refine kz_iald (k := i + c3) X U 2 rfl (by omega) (by omega) kd_Mo_times_117 ?_
                              refine lv_ior hx hb kd_Mo_times_118 ?_
                              refine lv_goto hx hb kd_Mo_times_119 rfl ?_
                              refine lv_istore hx hb kd_Mo_times_124 hl (by decide) rfl (fun ls hl => ?_)
                              have hl : lv_has ls 9 [(7, .int ((mo_fr a2 th2 i c3) ||| (th2 (i + c3)))), (8, .int (nI (i + c3))), (6, .int a2), (5, .int (nI i)), (0, .ref ho), (1, .int (nI k)), (2, .int (nI nd)), (3, .int (nI lo)), (4, .int (nI mo_))] := hl
                              refine lv_iinc (k := 1) (v := nI (i + c3 + 1)) hx hb kd_Mo_times_126 hl rfl (nI_add (i + c3) 1) (by decide) rfl (fun ls hl => ?_)
                              have hl : lv_has ls 9 [(8, .int (nI (i + c3 + 1))), (7, .int ((mo_fr a2 th2 i c3) ||| (th2 (i + c3)))), (6, .int a2), (5, .int (nI i)), (0, .ref ho), (1, .int (nI k)), (2, .int (nI nd)), (3, .int (nI lo)), (4, .int (nI mo_))] := hl
                              refine lv_goto hx hb kd_Mo_times_129 rfl ?_
                              have hl : lv_has ls 9 [(8, .int (nI (i + (c3 + 1)))), (7, .int (mo_fr a2 th2 i (c3 + 1))), (6, .int a2), (5, .int (nI i)), (0, .ref ho), (1, .int (nI k)), (2, .int (nI nd)), (3, .int (nI lo)), (4, .int (nI mo_))] := by rw [show mo_fr a2 th2 i (c3 + 1) = _ from if_pos h106]; exact lv_sub hl [0, 1, 2, 3, 4, 5, 6, 7, 8] rfl
                              exact ih89 (c3 + 1) _ _ _ (by omega) (by omega) hl U
                      exact loop89 _ 0 _ _ _ (Nat.lt_succ_self _) (by omega) (lv_sub hl [0, 1, 2, 3, 4, 5, 6, 7, 8] rfl) U
                    · refine lv_iload hx hb kd_Mo_times_64 (lv_at hl 1 rfl) ?_
                      refine lv_aload_n hx hb kd_Mo_times_66 rfl (lv_at hl 3 rfl) ?_
                      refine lv_iload hx hb kd_Mo_times_67 (lv_at hl 1 rfl) ?_
                      refine lv_iload_n hx hb kd_Mo_times_69 rfl (lv_at hl 5 rfl) ?_
                      refine kz_cVi (av := [.int a2, .int (nI nd)]) (rest := [.int a2]) (wr := [(mh, .inl (q 0, 25, .inl th2))]) X U hl.1 (cm_Mo_onward l D q ho mb mt mw mc mk m1 m2 ms mu mi mr mn mp mj me mh sz ln wn dp st_ im en lo_ ex ds a2 nd e2 (by omega) hen) (by decide) (by decide) ⟨by decide, by decide⟩ tb_618 tb_620 tb_s41 0 rfl rfl tb_11 tb_621 kq_Mo_onward [0, 1] [2] (by decide) rfl rfl (by decide) (by decide) rfl (Nat.le_of_ble_eq_true rfl) kd_Mo_times_70 (fun rv _ H locs hp U => ?_)
                      subst hp
                      have U : kz_U D q s A [(ho, .inr (6, [.ref mb, .int (nI sz), .ref mt, .int (nI ln), .ref mw, .int (nI wn), .ref mc, .ref mk, .ref m1, .ref m2, .ref ms, .int (nI dp), .ref mu, .ref mi, .ref mr, .ref mn, .ref mp, .int (nI st_), .int lo_, .int (nI im), .int (nB ex), .ref mj, .int (nI en), .ref me, .ref mh, .int (nB ds)])), (me, .inl (q 0, 3200, .inl e2)), (mh, .inl (q 0, 25, .inl th2))] H locs := U.sub [1, 2, 0] (by decide) rfl
                      refine lv_ior hx hb kd_Mo_times_73 ?_
                      refine lv_istore hx hb kd_Mo_times_74 hl (by decide) rfl (fun ls hl => ?_)
                      have hl : lv_has ls 9 [(6, .int (a2 ||| (mo_on a2 (fun j => e2 (25 * nd + j)) (en + 1)))), (7, .int (nI c2)), (5, .int (nI i)), (0, .ref ho), (1, .int (nI k)), (2, .int (nI nd)), (3, .int (nI lo)), (4, .int (nI mo_))] := hl
                      refine lv_iinc (k := 1) (v := nI (c2 + 1)) hx hb kd_Mo_times_76 hl rfl (nI_add c2 1) (by decide) rfl (fun ls hl => ?_)
                      have hl : lv_has ls 9 [(7, .int (nI (c2 + 1))), (6, .int (a2 ||| (mo_on a2 (fun j => e2 (25 * nd + j)) (en + 1)))), (5, .int (nI i)), (0, .ref ho), (1, .int (nI k)), (2, .int (nI nd)), (3, .int (nI lo)), (4, .int (nI mo_))] := hl
                      refine lv_goto hx hb kd_Mo_times_79 rfl ?_
                      exact ih50 (c2 + 1) _ _ _ _ (by omega) (by omega) (fun _ => by omega) (fun z => absurd h61 z) (fun B hB => by rw [show c2 + 1 - lo = (c2 - lo) + 1 by omega]; exact mo_opt_s (ha2 B hB) (hE B hB)) (lv_sub hl [0, 1, 2, 3, 4, 5, 6, 7] rfl) U
              exact loop50 _ lo a_ _ _ _ (Nat.lt_succ_self _) (Nat.le_refl _) hlm (fun _ => rfl) (fun B hB => by have := ha B hB; rw [show c_ = lo by omega] at this; rw [Nat.sub_self, show dm_pow (dm_or B dm_eps) 0 = dm_eps from rfl, dm_cat_eps]; exact this) (lv_sub hl [0, 1, 2, 3, 4, 5, 6, 7] rfl) U
            · refine lv_aload_n hx hb kd_Mo_times_32 rfl (lv_at hl 3 rfl) ?_
              refine lv_iload hx hb kd_Mo_times_33 (lv_at hl 1 rfl) ?_
              refine lv_iload_n hx hb kd_Mo_times_35 rfl (lv_at hl 5 rfl) ?_
              refine kz_cVi (av := [.int a_, .int (nI nd)]) (rest := []) (wr := [(mh, .inl (q 0, 25, .inl th2))]) X U hl.1 (cm_Mo_onward l D q ho mb mt mw mc mk m1 m2 ms mu mi mr mn mp mj me mh sz ln wn dp st_ im en lo_ ex ds a_ nd e2 (by omega) hen) (by decide) (by decide) ⟨by decide, by decide⟩ tb_618 tb_620 tb_s41 0 rfl rfl tb_11 tb_621 kq_Mo_onward [0, 1] [2] (by decide) rfl rfl (by decide) (by decide) rfl (Nat.le_of_ble_eq_true rfl) kd_Mo_times_36 (fun rv _ H locs hp U => ?_)
              subst hp
              have U : kz_U D q s A [(ho, .inr (6, [.ref mb, .int (nI sz), .ref mt, .int (nI ln), .ref mw, .int (nI wn), .ref mc, .ref mk, .ref m1, .ref m2, .ref ms, .int (nI dp), .ref mu, .ref mi, .ref mr, .ref mn, .ref mp, .int (nI st_), .int lo_, .int (nI im), .int (nB ex), .ref mj, .int (nI en), .ref me, .ref mh, .int (nB ds)])), (me, .inl (q 0, 3200, .inl e2)), (mh, .inl (q 0, 25, .inl th2))] H locs := U.sub [1, 2, 0] (by decide) rfl
              refine lv_istore hx hb kd_Mo_times_39 hl (by decide) rfl (fun ls hl => ?_)
              have hl : lv_has ls 9 [(6, .int (mo_on a_ (fun j => e2 (25 * nd + j)) (en + 1))), (7, .int (nI c_)), (5, .int (nI i)), (0, .ref ho), (1, .int (nI k)), (2, .int (nI nd)), (3, .int (nI lo)), (4, .int (nI mo_))] := hl
              refine lv_iinc (k := 1) (v := nI (c_ + 1)) hx hb kd_Mo_times_41 hl rfl (nI_add c_ 1) (by decide) rfl (fun ls hl => ?_)
              have hl : lv_has ls 9 [(7, .int (nI (c_ + 1))), (6, .int (mo_on a_ (fun j => e2 (25 * nd + j)) (en + 1))), (5, .int (nI i)), (0, .ref ho), (1, .int (nI k)), (2, .int (nI nd)), (3, .int (nI lo)), (4, .int (nI mo_))] := hl
              refine lv_goto hx hb kd_Mo_times_44 rfl ?_
              exact ih26 (c_ + 1) _ _ _ _ (by omega) (by omega) (fun B hB => mo_on_at (ha B hB) (hE B hB)) (lv_sub hl [0, 1, 2, 3, 4, 5, 6, 7] rfl) U
        exact loop26 _ 0 _ _ _ _ (Nat.lt_succ_self _) (by omega) (fun B hB => mo_eps_at (by omega) hen) (lv_sub hl [0, 1, 2, 3, 4, 5, 6, 7] rfl) U
  exact loop8 _ 0 es _ _ _ (Nat.lt_succ_self _) (by omega) (fun _ _ => rfl) (fun B hB j h => absurd h (Nat.not_lt_zero _)) (lv_sub hl [0, 1, 2, 3, 4, 5] rfl) U
