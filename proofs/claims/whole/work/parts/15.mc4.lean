theorem ro_rep_many {n M : Nat} {t : Nat → Nat} {A : dm_L} {lo : Nat} {g : Nat → Int32} (h : ro_is n M t (dm_cat (dm_pow A lo) (dm_pow (dm_star A) 1)) g) : ro_is n M t (dm_rep A lo 0) g := by
  rw [dm_rep_many, ← dm_pow_1 (dm_star A)]
  exact h
theorem ro_rep_some {n M : Nat} {t : Nat → Nat} {A : dm_L} {lo h : Nat} (hl : lo ≤ h) {g : Nat → Int32} (hg : ro_is n M t (dm_cat (dm_pow A lo) (dm_pow (dm_or A dm_eps) (h - lo))) g) : ro_is n M t (dm_rep A lo (h + 1)) g := by
  have e : h + 1 = lo + (h - lo) + 1 := by omega
  rw [e, dm_rep_some]
  exact hg
theorem ro_cat_0 {n M : Nat} {t : Nat → Nat} {A B : dm_L} {g : Nat → Int32} (h : ro_is n M t A g) : ro_is n M t (dm_cat A (dm_pow B 0)) g := by
  show ro_is n M t (dm_cat A dm_eps) g
  rw [dm_cat_eps]
  exact h
theorem ro_cat_s {n M k : Nat} (hM : M ≤ 24) {t : Nat → Nat} {A B : dm_L} {g r : Nat → Int32} (h : ro_is n M t (dm_cat A (dm_pow B k)) g) (hr : ro_is n M t B r) : ro_is n M t (dm_cat A (dm_pow B (k + 1))) (kz_fl (fun j => ro_lt n M (g j) r j) g (n + 1)) := by
  show ro_is n M t (dm_cat A (dm_cat (dm_pow B k) B)) _
  rw [← dm_cat_assoc]
  exact ro_fl (ro_join_is (by omega) h hr (fun _ _ => rfl))
theorem ro_pow_s {n M k : Nat} (hM : M ≤ 24) {t : Nat → Nat} {B : dm_L} {g r : Nat → Int32} (h : ro_is n M t (dm_pow B k) g) (hr : ro_is n M t B r) : ro_is n M t (dm_pow B (k + 1)) (kz_fl (fun j => ro_lt n M (g j) r j) g (n + 1)) := ro_fl (ro_join_is (by omega) h hr (fun _ _ => rfl))
theorem ro_cpy {n M : Nat} {t : Nat → Nat} {A : dm_L} {g r : Nat → Int32} (h : ro_is n M t A g) : ro_is n M t A (va_cpy g r 0 0 (n + 1)) := ro_is_congr h fun i hi => by rw [pk_cpy_in (by omega) (by omega)]; simp

set_option maxHeartbeats 4000000 in
set_option maxRecDepth 100000 in
theorem cm_Mc_repeat (l : Launch) (D : va_G) (q : Nat → ClassId) (h0 h1 n M a1 a2 lo b : Nat) (f g0 : Nat → Int32) (t : Nat → Nat) (hlo : lo < 100) (hb0 : b < 100) (hlb : b = 0 ∨ lo < b) (hn : n ≤ 84) (hM : M ≤ 24) : kz_Mv (S := (Nat → Int32) × (Nat → Int32)) l ky_Mc_repeat kb_Mc_repeat 7 4 D q [.ref h0, .ref a1, .ref a2, .int (nI lo), .int (nI b + (-1))] [(h0, .inr (0, [.ref h1, .int (nI n), .int (nI M)])), (a1, .inl (q 0, 85, .inl f)), (a2, .inl (q 0, 85, .inl g0))] (fun u => ∀ A, ro_is n M t A f → ro_is n M t (dm_rep A lo b) u.1) (fun u => [(h0, .inr (0, [.ref h1, .int (nI n), .int (nI M)])), (a1, .inl (q 0, 85, .inl u.1)), (a2, .inl (q 0, 85, .inl u.2))]) := by
  intro sz
  refine kz_go (by decide +kernel) (Nat.le_of_ble_eq_true rfl) ?_
  intro p e s m below meth c ls args A Q H locs hQ hA X U hl
  have hx := X.1
  have hb := X.2.1
  have hl : lv_has ls 7 [(0, .ref h0), (1, .ref a1), (2, .ref a2), (3, .int (nI lo)), (4, .int (nI b + (-1)))] := hl
  refine lv_aload_n hx hb kd_Mc_repeat_0 rfl (lv_at hl 0 rfl) ?_
  refine lv_aload_n hx hb kd_Mc_repeat_1 rfl (lv_at hl 2 rfl) ?_
  refine kz_cSv (av := [.ref h0, .ref a2]) (rest := []) (wr := [(a1, .inl (q 0, 85, .inl f))]) X U hl.1 (cm_Mc_putEmpty l D q h0 h1 n M a2 g0 hn hM) (by decide) (by decide) ⟨by decide, by decide⟩ tb_341 tb_342 tb_10 tb_343 kq_Mc_putEmpty [0, 2] [1] (by decide) rfl rfl (by decide) (by decide) rfl (Nat.le_of_ble_eq_true rfl) kd_Mc_repeat_2 (fun _ H locs _ U => ?_)
  have U : kz_U D q s A [(h0, .inr (0, [.ref h1, .int (nI n), .int (nI M)])), (a1, .inl (q 0, 85, .inl f)), (a2, .inl (q 0, 85, .inl (kz_fl (fun _ => 1) g0 (n + 1))))] H locs := U.sub [1, 0, 2] (by decide) rfl
  refine kz_ic X 0 kd_Mc_repeat_5 (by decide) ?_
  refine lv_istore hx hb kd_Mc_repeat_6 hl (by decide) rfl (fun ls hl => ?_)
  have hl : lv_has ls 7 [(5, .int (nI 0)), (0, .ref h0), (1, .ref a1), (2, .ref a2), (3, .int (nI lo)), (4, .int (nI b + (-1)))] := hl
  have loop8 : ∀ (fuel : Nat) (k : Nat) (g : Nat → Int32) (ls : Array Slot) (H : Heap) (locs : List Loc), lo + 1 - k < fuel → (k ≤ lo) → (∀ A, ro_is n M t A f → ro_is n M t (dm_pow A k) g) → lv_has ls 7 [(5, .int (nI k)), (4, .int (nI b + (-1))), (0, .ref h0), (1, .ref a1), (2, .ref a2), (3, .int (nI lo))] → kz_U D q s A [(h0, .inr (0, [.ref h1, .int (nI n), .int (nI M)])), (a1, .inl (q 0, 85, .inl f)), (a2, .inl (q 0, 85, .inl g))] H locs → W p l e (kz_rm 4) s m args below meth c H locs 0 0 Q (F0 m 8 ls []) := by
    intro fuel
    induction fuel with
    | zero => intro k g ls H locs hme; exact absurd hme (Nat.not_lt_zero _)
    | succ fuel ih8 =>
      intro k g ls H locs hme hk hg hl U
      refine lv_iload hx hb kd_Mc_repeat_8 (lv_at hl 0 rfl) ?_
      refine lv_iload_n hx hb kd_Mc_repeat_10 rfl (lv_at hl 5 rfl) ?_
      refine kz_icge X (by omega) (by omega) kd_Mc_repeat_11 rfl (fun h11 => ?_) (fun h11 => ?_)
      · rcases b with _ | h
        · rw [show nI 0 + (-1) = (-1 : Int32) from by decide] at hl
          refine lv_iload hx hb kd_Mc_repeat_26 (lv_at hl 1 rfl) ?_
          refine lv_iconst (v := (-1)) hx hb kd_Mc_repeat_28 (by decide) ?_
          refine lv_icmp_ne hx hb kd_Mc_repeat_29 rfl (fun h29 => absurd h29 (fun z => z rfl)) (fun h29 => ?_)
          refine kz_ic X 1 kd_Mc_repeat_32 (by decide) ?_
          refine lv_goto hx hb kd_Mc_repeat_33 rfl ?_
          refine lv_istore hx hb kd_Mc_repeat_40 hl (by decide) rfl (fun ls hl => ?_)
          have hl : lv_has ls 7 [(5, .int (nI 1)), (4, .int ((-1))), (0, .ref h0), (1, .ref a1), (2, .ref a2), (3, .int (nI lo))] := hl
          refine lv_iload hx hb kd_Mc_repeat_42 (lv_at hl 1 rfl) ?_
          refine lv_iconst (v := (-1)) hx hb kd_Mc_repeat_44 (by decide) ?_
          refine lv_icmp_ne hx hb kd_Mc_repeat_45 rfl (fun h45 => absurd h45 (fun z => z rfl)) (fun h45 => ?_)
          refine lv_aload_n hx hb kd_Mc_repeat_48 rfl (lv_at hl 2 rfl) ?_
          refine lv_aload_n hx hb kd_Mc_repeat_49 rfl (lv_at hl 3 rfl) ?_
          refine kz_cSv (av := [.ref h0, .ref a1]) (rest := []) (wr := [(a2, .inl (q 0, 85, .inl g))]) X U hl.1 (cm_Mc_loop l D q h0 h1 n M a1 f hn hM) (by decide) (by decide) ⟨by decide, by decide⟩ tb_376 tb_377 tb_10 tb_378 kq_Mc_loop [0, 1] [2] (by decide) rfl rfl (by decide) (by decide) rfl (Nat.le_of_ble_eq_true rfl) kd_Mc_repeat_50 (fun rg H locs hrg U => ?_)
          have U : kz_U D q s A [(h0, .inr (0, [.ref h1, .int (nI n), .int (nI M)])), (a1, .inl (q 0, 85, .inl rg)), (a2, .inl (q 0, 85, .inl g))] H locs := U.sub [1, 2, 0] (by decide) rfl
          refine lv_goto hx hb kd_Mc_repeat_53 rfl ?_
          refine kz_ic X 0 kd_Mc_repeat_61 (by decide) ?_
          refine lv_istore hx hb kd_Mc_repeat_62 hl (by decide) rfl (fun ls hl => ?_)
          have hl : lv_has ls 7 [(6, .int (nI 0)), (5, .int (nI 1)), (4, .int ((-1))), (0, .ref h0), (1, .ref a1), (2, .ref a2), (3, .int (nI lo))] := hl
          have loop64 : ∀ (fuel : Nat) (k : Nat) (g : Nat → Int32) (ls : Array Slot) (H : Heap) (locs : List Loc), 1 + 1 - k < fuel → (k ≤ 1) → (∀ A, ro_is n M t A f → ro_is n M t (dm_cat (dm_pow A lo) (dm_pow (dm_star A) k)) g) → lv_has ls 7 [(6, .int (nI k)), (5, .int (nI 1)), (4, .int ((-1))), (0, .ref h0), (1, .ref a1), (2, .ref a2), (3, .int (nI lo))] → kz_U D q s A [(h0, .inr (0, [.ref h1, .int (nI n), .int (nI M)])), (a1, .inl (q 0, 85, .inl rg)), (a2, .inl (q 0, 85, .inl g))] H locs → W p l e (kz_rm 4) s m args below meth c H locs 0 0 Q (F0 m 64 ls []) := by
            intro fuel
            induction fuel with
            | zero => intro k g ls H locs hme; exact absurd hme (Nat.not_lt_zero _)
            | succ fuel ih64 =>
              intro k g ls H locs hme hk hg hl U
              refine lv_iload hx hb kd_Mc_repeat_64 (lv_at hl 0 rfl) ?_
              refine lv_iload hx hb kd_Mc_repeat_66 (lv_at hl 1 rfl) ?_
              refine kz_icge X (by omega) (by omega) kd_Mc_repeat_68 rfl (fun h68 => ?_) (fun h68 => ?_)
              · refine lv_aload_n hx hb kd_Mc_repeat_83 rfl (lv_at hl 5 rfl) ?_
                refine kz_ic X 0 kd_Mc_repeat_84 (by decide) ?_
                refine lv_aload_n hx hb kd_Mc_repeat_85 rfl (lv_at hl 4 rfl) ?_
                refine kz_ic X 0 kd_Mc_repeat_86 (by decide) ?_
                refine lv_aload_n hx hb kd_Mc_repeat_87 rfl (lv_at hl 3 rfl) ?_
                refine kg_Mc_65 X U 0 rfl rfl kd_Mc_repeat_88 ?_
                refine kz_ic X 1 kd_Mc_repeat_91 (by decide) ?_
                refine kz_iadd X kd_Mc_repeat_92 ?_
                refine kz_top (y := nI (n + 1)) rfl ?_
                refine kz_copy X U hl.1 (by decide) (by decide) tb_382 tb_241 tb_240 tb_13 2 1 0 rfl rfl rfl rfl (by omega) (by omega) (by omega) (fun _ _ => rfl) kd_Mc_repeat_93 (fun H locs U => ?_)
                have U : kz_U D q s A [(h0, .inr (0, [.ref h1, .int (nI n), .int (nI M)])), (a1, .inl (q 0, 85, .inl (va_cpy g rg 0 0 (n + 1)))), (a2, .inl (q 0, 85, .inl g))] H locs := U
                exact kz_ev hQ hA X U ((_, g)) rfl (fun A hAf => ro_cpy (ro_rep_many (by have := hg A hAf; rw [show k = 1 by omega] at this; exact this))) kd_Mc_repeat_96
              · refine lv_aload_n hx hb kd_Mc_repeat_71 rfl (lv_at hl 3 rfl) ?_
                refine lv_aload_n hx hb kd_Mc_repeat_72 rfl (lv_at hl 5 rfl) ?_
                refine lv_aload_n hx hb kd_Mc_repeat_73 rfl (lv_at hl 4 rfl) ?_
                refine kz_cSv (av := [.ref h0, .ref a2, .ref a1]) (rest := []) (wr := []) X U hl.1 (cm_Mc_join l D q h0 h1 n M a2 a1 g (rg) hn hM) (by decide) (by decide) ⟨by decide, by decide⟩ tb_347 tb_348 tb_10 tb_349 kq_Mc_join [0, 2, 1] [] (by decide) rfl rfl (by decide) (by decide) rfl (Nat.le_of_ble_eq_true rfl) kd_Mc_repeat_74 (fun _ H locs _ U => ?_)
                have U : kz_U D q s A [(h0, .inr (0, [.ref h1, .int (nI n), .int (nI M)])), (a1, .inl (q 0, 85, .inl rg)), (a2, .inl (q 0, 85, .inl (kz_fl (fun j => ro_lt n M (g j) (rg) j) g (n + 1))))] H locs := U.sub [0, 2, 1] (by decide) rfl
                refine lv_iinc (k := 0) (v := nI (k + 1)) hx hb kd_Mc_repeat_77 hl rfl (nI_add k 1) (by decide) rfl (fun ls hl => ?_)
                have hl : lv_has ls 7 [(6, .int (nI (k + 1))), (5, .int (nI 1)), (4, .int ((-1))), (0, .ref h0), (1, .ref a1), (2, .ref a2), (3, .int (nI lo))] := hl
                refine lv_goto hx hb kd_Mc_repeat_80 rfl ?_
                exact ih64 (k + 1) _ _ _ _ (by omega) (by omega) (fun A hAf => ro_cat_s hM (hg A hAf) (ro_loop_is (by omega) hAf hrg)) (lv_sub hl [0, 1, 2, 3, 4, 5, 6] rfl) U
          exact loop64 _ 0 g _ _ _ (Nat.lt_succ_self _) (by omega) (fun A hAf => ro_cat_0 (by have := hg A hAf; rw [show k = lo by omega] at this; exact this)) (lv_sub hl [0, 1, 2, 3, 4, 5, 6] rfl) U
        · rw [pk_m1] at hl
          have hlh : lo ≤ h := by rcases hlb with z | z <;> omega
          refine lv_iload hx hb kd_Mc_repeat_26 (lv_at hl 1 rfl) ?_
          refine lv_iconst (v := (-1)) hx hb kd_Mc_repeat_28 (by decide) ?_
          refine lv_icmp_ne hx hb kd_Mc_repeat_29 rfl (fun h29 => ?_) (fun h29 => absurd h29 (fun y => nI_pos (n := h) (by omega) (by rw [y]; decide)))
          refine lv_iload hx hb kd_Mc_repeat_36 (lv_at hl 1 rfl) ?_
          refine lv_iload_n hx hb kd_Mc_repeat_38 rfl (lv_at hl 5 rfl) ?_
          refine kz_isub X (by omega) kd_Mc_repeat_39 ?_
          refine lv_istore hx hb kd_Mc_repeat_40 hl (by decide) rfl (fun ls hl => ?_)
          have hl : lv_has ls 7 [(5, .int (nI (h - lo))), (4, .int (nI h)), (0, .ref h0), (1, .ref a1), (2, .ref a2), (3, .int (nI lo))] := hl
          refine lv_iload hx hb kd_Mc_repeat_42 (lv_at hl 1 rfl) ?_
          refine lv_iconst (v := (-1)) hx hb kd_Mc_repeat_44 (by decide) ?_
          refine lv_icmp_ne hx hb kd_Mc_repeat_45 rfl (fun h45 => ?_) (fun h45 => absurd h45 (fun y => nI_pos (n := h) (by omega) (by rw [y]; decide)))
          refine lv_aload_n hx hb kd_Mc_repeat_56 rfl (lv_at hl 2 rfl) ?_
          refine lv_aload_n hx hb kd_Mc_repeat_57 rfl (lv_at hl 3 rfl) ?_
          refine kz_cSv (av := [.ref h0, .ref a1]) (rest := []) (wr := [(a2, .inl (q 0, 85, .inl g))]) X U hl.1 (cm_Mc_addEmpty l D q h0 h1 n M a1 f hn hM) (by decide) (by decide) ⟨by decide, by decide⟩ tb_379 tb_380 tb_10 tb_381 kq_Mc_addEmpty [0, 1] [2] (by decide) rfl rfl (by decide) (by decide) rfl (Nat.le_of_ble_eq_true rfl) kd_Mc_repeat_58 (fun _ H locs _ U => ?_)
          have U : kz_U D q s A [(h0, .inr (0, [.ref h1, .int (nI n), .int (nI M)])), (a1, .inl (q 0, 85, .inl (kz_fl (fun j => f j ||| 1) f (n + 1)))), (a2, .inl (q 0, 85, .inl g))] H locs := U.sub [1, 2, 0] (by decide) rfl
          refine kz_ic X 0 kd_Mc_repeat_61 (by decide) ?_
          refine lv_istore hx hb kd_Mc_repeat_62 hl (by decide) rfl (fun ls hl => ?_)
          have hl : lv_has ls 7 [(6, .int (nI 0)), (5, .int (nI (h - lo))), (4, .int (nI h)), (0, .ref h0), (1, .ref a1), (2, .ref a2), (3, .int (nI lo))] := hl
          have loop64 : ∀ (fuel : Nat) (k : Nat) (g : Nat → Int32) (ls : Array Slot) (H : Heap) (locs : List Loc), (h - lo) + 1 - k < fuel → (k ≤ h - lo) → (∀ A, ro_is n M t A f → ro_is n M t (dm_cat (dm_pow A lo) (dm_pow (dm_or A dm_eps) k)) g) → lv_has ls 7 [(6, .int (nI k)), (5, .int (nI (h - lo))), (4, .int (nI h)), (0, .ref h0), (1, .ref a1), (2, .ref a2), (3, .int (nI lo))] → kz_U D q s A [(h0, .inr (0, [.ref h1, .int (nI n), .int (nI M)])), (a1, .inl (q 0, 85, .inl (kz_fl (fun j => f j ||| 1) f (n + 1)))), (a2, .inl (q 0, 85, .inl g))] H locs → W p l e (kz_rm 4) s m args below meth c H locs 0 0 Q (F0 m 64 ls []) := by
            intro fuel
            induction fuel with
            | zero => intro k g ls H locs hme; exact absurd hme (Nat.not_lt_zero _)
            | succ fuel ih64 =>
              intro k g ls H locs hme hk hg hl U
              refine lv_iload hx hb kd_Mc_repeat_64 (lv_at hl 0 rfl) ?_
              refine lv_iload hx hb kd_Mc_repeat_66 (lv_at hl 1 rfl) ?_
              refine kz_icge X (by omega) (by omega) kd_Mc_repeat_68 rfl (fun h68 => ?_) (fun h68 => ?_)
              · refine lv_aload_n hx hb kd_Mc_repeat_83 rfl (lv_at hl 5 rfl) ?_
                refine kz_ic X 0 kd_Mc_repeat_84 (by decide) ?_
                refine lv_aload_n hx hb kd_Mc_repeat_85 rfl (lv_at hl 4 rfl) ?_
                refine kz_ic X 0 kd_Mc_repeat_86 (by decide) ?_
                refine lv_aload_n hx hb kd_Mc_repeat_87 rfl (lv_at hl 3 rfl) ?_
                refine kg_Mc_65 X U 0 rfl rfl kd_Mc_repeat_88 ?_
                refine kz_ic X 1 kd_Mc_repeat_91 (by decide) ?_
                refine kz_iadd X kd_Mc_repeat_92 ?_
                refine kz_top (y := nI (n + 1)) rfl ?_
                refine kz_copy X U hl.1 (by decide) (by decide) tb_382 tb_241 tb_240 tb_13 2 1 0 rfl rfl rfl rfl (by omega) (by omega) (by omega) (fun _ _ => rfl) kd_Mc_repeat_93 (fun H locs U => ?_)
                have U : kz_U D q s A [(h0, .inr (0, [.ref h1, .int (nI n), .int (nI M)])), (a1, .inl (q 0, 85, .inl (va_cpy g (kz_fl (fun j => f j ||| 1) f (n + 1)) 0 0 (n + 1)))), (a2, .inl (q 0, 85, .inl g))] H locs := U
                exact kz_ev hQ hA X U ((_, g)) rfl (fun A hAf => ro_cpy (ro_rep_some hlh (by have := hg A hAf; rw [show k = h - lo by omega] at this; exact this))) kd_Mc_repeat_96
              · refine lv_aload_n hx hb kd_Mc_repeat_71 rfl (lv_at hl 3 rfl) ?_
                refine lv_aload_n hx hb kd_Mc_repeat_72 rfl (lv_at hl 5 rfl) ?_
                refine lv_aload_n hx hb kd_Mc_repeat_73 rfl (lv_at hl 4 rfl) ?_
                refine kz_cSv (av := [.ref h0, .ref a2, .ref a1]) (rest := []) (wr := []) X U hl.1 (cm_Mc_join l D q h0 h1 n M a2 a1 g (kz_fl (fun j => f j ||| 1) f (n + 1)) hn hM) (by decide) (by decide) ⟨by decide, by decide⟩ tb_347 tb_348 tb_10 tb_349 kq_Mc_join [0, 2, 1] [] (by decide) rfl rfl (by decide) (by decide) rfl (Nat.le_of_ble_eq_true rfl) kd_Mc_repeat_74 (fun _ H locs _ U => ?_)
                have U : kz_U D q s A [(h0, .inr (0, [.ref h1, .int (nI n), .int (nI M)])), (a1, .inl (q 0, 85, .inl (kz_fl (fun j => f j ||| 1) f (n + 1)))), (a2, .inl (q 0, 85, .inl (kz_fl (fun j => ro_lt n M (g j) (kz_fl (fun j => f j ||| 1) f (n + 1)) j) g (n + 1))))] H locs := U.sub [0, 2, 1] (by decide) rfl
                refine lv_iinc (k := 0) (v := nI (k + 1)) hx hb kd_Mc_repeat_77 hl rfl (nI_add k 1) (by decide) rfl (fun ls hl => ?_)
                have hl : lv_has ls 7 [(6, .int (nI (k + 1))), (5, .int (nI (h - lo))), (4, .int (nI h)), (0, .ref h0), (1, .ref a1), (2, .ref a2), (3, .int (nI lo))] := hl
                refine lv_goto hx hb kd_Mc_repeat_80 rfl ?_
                exact ih64 (k + 1) _ _ _ _ (by omega) (by omega) (fun A hAf => ro_cat_s hM (hg A hAf) (ro_fl (ro_or_is hAf (ro_eps_is (h := fun _ => 1) (fun _ _ => rfl)) (fun _ _ => rfl)))) (lv_sub hl [0, 1, 2, 3, 4, 5, 6] rfl) U
          exact loop64 _ 0 g _ _ _ (Nat.lt_succ_self _) (by omega) (fun A hAf => ro_cat_0 (by have := hg A hAf; rw [show k = lo by omega] at this; exact this)) (lv_sub hl [0, 1, 2, 3, 4, 5, 6] rfl) U
      · refine lv_aload_n hx hb kd_Mc_repeat_14 rfl (lv_at hl 2 rfl) ?_
        refine lv_aload_n hx hb kd_Mc_repeat_15 rfl (lv_at hl 4 rfl) ?_
        refine lv_aload_n hx hb kd_Mc_repeat_16 rfl (lv_at hl 3 rfl) ?_
        refine kz_cSv (av := [.ref h0, .ref a2, .ref a1]) (rest := []) (wr := []) X U hl.1 (cm_Mc_join l D q h0 h1 n M a2 a1 g f hn hM) (by decide) (by decide) ⟨by decide, by decide⟩ tb_347 tb_348 tb_10 tb_349 kq_Mc_join [0, 2, 1] [] (by decide) rfl rfl (by decide) (by decide) rfl (Nat.le_of_ble_eq_true rfl) kd_Mc_repeat_17 (fun _ H locs _ U => ?_)
        have U : kz_U D q s A [(h0, .inr (0, [.ref h1, .int (nI n), .int (nI M)])), (a1, .inl (q 0, 85, .inl f)), (a2, .inl (q 0, 85, .inl (kz_fl (fun j => ro_lt n M (g j) (f) j) g (n + 1))))] H locs := U.sub [0, 2, 1] (by decide) rfl
        refine lv_iinc (k := 0) (v := nI (k + 1)) hx hb kd_Mc_repeat_20 hl rfl (nI_add k 1) (by decide) rfl (fun ls hl => ?_)
        have hl : lv_has ls 7 [(5, .int (nI (k + 1))), (4, .int (nI b + (-1))), (0, .ref h0), (1, .ref a1), (2, .ref a2), (3, .int (nI lo))] := hl
        refine lv_goto hx hb kd_Mc_repeat_23 rfl ?_
        exact ih8 (k + 1) _ _ _ _ (by omega) (by omega) (fun A hAf => ro_pow_s hM (hg A hAf) hAf) (lv_sub hl [0, 1, 2, 3, 4, 5] rfl) U
  exact loop8 _ 0 _ _ _ _ (Nat.lt_succ_self _) (by omega) (fun A hAf => ro_fl (ro_eps_is (fun _ _ => rfl))) (lv_sub hl [0, 5, 1, 2, 3, 4] rfl) U
