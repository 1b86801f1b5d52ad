theorem i2c_n {x : Nat} (h : x < 65536) : ((nI x).toUInt32 % 65536).toInt32 = nI x := by
  rw [pk_char, pk_tn (by omega), Nat.mod_eq_of_lt h]
theorem sb_m1' (n : Nat) : nI n + (-1) = nI n - nI 1 := by
  apply Int32.toBitVec_inj.mp
  show (nI n).toBitVec + (-1#32) = (nI n).toBitVec - 1#32
  rw [BitVec.sub_eq_add_neg]

set_option maxHeartbeats 4000000 in
set_option maxRecDepth 100000 in
theorem cm_Dm_keepWord (l : Launch) (D : va_G) (q : Nat → ClassId) (hd bb tl wl pp rd hm lt nb nl : Nat) (w : List Nat) (le : Nat → Nat) (hw : wd_w w) : kz_Mi (S := Nat → Nat) l ky_Dm_keepWord kb_Dm_keepWord 4 (some .int) 0 D q [.ref hd, .int (nI (wd_no w))] [(hd, .inr (5, [.ref bb, .int (nI nb), .ref tl, .ref wl, .ref pp, .ref rd, .ref hm, .ref lt, .int (nI nl)])), (lt, .inl (q 1, 4, .inl (fun x_ => nI (le x_))))] (fun r u => r = nI w.length ∧ ∀ i (h : i < w.length), u i = w[i]) (fun u => [(hd, .inr (5, [.ref bb, .int (nI nb), .ref tl, .ref wl, .ref pp, .ref rd, .ref hm, .ref lt, .int (nI w.length)])), (lt, .inl (q 1, 4, .inl (fun x_ => nI (u x_))))]) := by
  intro sz_
  refine kz_go (by decide +kernel) (Nat.le_of_ble_eq_true rfl) ?_
  intro p e s m below meth c ls args A Q H locs hQ hA X U hl
  have hx := X.1
  have hb := X.2.1
  have hl : lv_has ls 4 [(0, .ref hd), (1, .int (nI (wd_no w)))] := hl
  have hw4 := hw.1
  refine lv_aload_n hx hb kd_Dm_keepWord_0 rfl (lv_at hl 0 rfl) ?_
  refine kz_ic X 0 kd_Dm_keepWord_1 (by decide) ?_
  refine kp_Dm_61 X U 0 rfl (Nat.le_of_ble_eq_true rfl) kd_Dm_keepWord_2 (fun H locs U => ?_)
  have U : kz_U D q s A [(hd, .inr (5, [.ref bb, .int (nI nb), .ref tl, .ref wl, .ref pp, .ref rd, .ref hm, .ref lt, .int (nI 0)])), (lt, .inl (q 1, 4, .inl (fun x_ => nI (le x_))))] H locs := U
  refine lv_iload_n hx hb kd_Dm_keepWord_5 rfl (lv_at hl 1 rfl) ?_
  refine lv_istore_n hx hb kd_Dm_keepWord_6 rfl hl (by decide) rfl (fun ls hl => ?_)
  have hl : lv_has ls 4 [(2, .int (nI (wd_no w))), (0, .ref hd), (1, .int (nI (wd_no w)))] := hl
  have loop7 : ∀ (fuel : Nat) (i : Nat) (ls : Array Slot) (H : Heap) (locs : List Loc), w.length + 1 - i < fuel → (i ≤ w.length) → lv_has ls 4 [(2, .int (nI (wd_no (w.take (w.length - i))))), (0, .ref hd), (1, .int (nI (wd_no w)))] → kz_U D q s A [(hd, .inr (5, [.ref bb, .int (nI nb), .ref tl, .ref wl, .ref pp, .ref rd, .ref hm, .ref lt, .int (nI i)])), (lt, .inl (q 1, 4, .inl (fun x_ => nI (le x_))))] H locs → W p l e (kz_rm 0) s m args below meth c H locs 0 0 Q (F0 m 7 ls []) := by
    intro fuel
    induction fuel with
    | zero => intro i ls H locs hme; exact absurd hme (Nat.not_lt_zero _)
    | succ fuel ih7 =>
      intro i ls H locs hme hi hl U
      refine lv_iload_n hx hb kd_Dm_keepWord_7 rfl (lv_at hl 0 rfl) ?_
      refine kz_nle X (by first | omega | (have := wd_no_lt (wd_w_take hw (w.length - i)); omega) | (have := wd_no_lt hw; omega)) kd_Dm_keepWord_8 rfl (fun h8 => ?_) (fun h8 => ?_)
      · have hiL : i = w.length := by
          rcases Nat.lt_or_ge i w.length with z | z
          · have := wd_pos (w := w.take (w.length - i)) (by intro y; have := congrArg List.length y; rw [List.length_take] at this; simp at this; omega)
            omega
          · omega
        subst hiL
        have hl : lv_has ls 4 [(2, .int (nI (wd_no (w.take (w.length - w.length))))), (0, .ref hd), (1, .int (nI (wd_no w)))] := hl
        have U : kz_U D q s A [(hd, .inr (5, [.ref bb, .int (nI nb), .ref tl, .ref wl, .ref pp, .ref rd, .ref hm, .ref lt, .int (nI w.length)])), (lt, .inl (q 1, 4, .inl (fun x_ => nI (le x_))))] H locs := U
        refine lv_iload_n hx hb kd_Dm_keepWord_30 rfl (lv_at hl 2 rfl) ?_
        refine lv_istore_n hx hb kd_Dm_keepWord_31 rfl hl (by decide) rfl (fun ls hl => ?_)
        have hl : lv_has ls 4 [(2, .int (nI (wd_no w))), (0, .ref hd), (1, .int (nI (wd_no w)))] := hl
        refine lv_aload_n hx hb kd_Dm_keepWord_32 rfl (lv_at hl 1 rfl) ?_
        refine kg_Dm_61 X U 0 rfl rfl kd_Dm_keepWord_33 ?_
        refine kz_ic X 1 kd_Dm_keepWord_36 (by decide) ?_
        refine lv_isub hx hb kd_Dm_keepWord_37 ?_
        refine kz_top (y := nI w.length + (-1)) (sb_m1' w.length).symm ?_
        refine lv_istore_n hx hb kd_Dm_keepWord_38 rfl hl (by decide) rfl (fun ls hl => ?_)
        have hl : lv_has ls 4 [(3, .int (nI w.length + (-1))), (2, .int (nI (wd_no w))), (0, .ref hd), (1, .int (nI (wd_no w)))] := hl
        have loop39 : ∀ (fuel : Nat) (j : Nat) (lf : Nat → Nat) (ls : Array Slot) (H : Heap) (locs : List Loc), j < fuel → (j ≤ w.length) → (∀ i (h : i < w.length), j ≤ i → lf i = w[i]) → lv_has ls 4 [(3, .int (nI j + (-1))), (2, .int (nI (wd_no (w.take j)))), (0, .ref hd)] → kz_U D q s A [(hd, .inr (5, [.ref bb, .int (nI nb), .ref tl, .ref wl, .ref pp, .ref rd, .ref hm, .ref lt, .int (nI w.length)])), (lt, .inl (q 1, 4, .inl (fun x_ => nI (lf x_))))] H locs → W p l e (kz_rm 0) s m args below meth c H locs 0 0 Q (F0 m 39 ls []) := by
          intro fuel
          induction fuel with
          | zero => intro j lf ls H locs hme; exact absurd hme (Nat.not_lt_zero _)
          | succ fuel ih39 =>
            intro j lf ls H locs hme hj hlf hl U
            rcases j with _ | j
            · refine lv_iload_n hx hb kd_Dm_keepWord_39 rfl (lv_at hl 0 rfl) ?_
              refine lv_if_lt hx hb kd_Dm_keepWord_40 rfl (fun h40 => ?_) (fun h40 => absurd h40 (fun z => z (by decide)))
              refine lv_aload_n hx hb kd_Dm_keepWord_70 rfl (lv_at hl 2 rfl) ?_
              refine kg_Dm_61 X U 0 rfl rfl kd_Dm_keepWord_71 ?_
              exact kz_ei hQ hA X U lf rfl (⟨rfl, fun i h => hlf i h (Nat.zero_le _)⟩) kd_Dm_keepWord_74
            · rw [pk_m1] at hl
              have hjw : j < w.length := by omega
              have h1_ := wd_last hjw
              have h2_ := wd_at hw hjw
              have h3_ := wd_no_lt (wd_w_take hw (j + 1))
              refine lv_iload_n hx hb kd_Dm_keepWord_39 rfl (lv_at hl 0 rfl) ?_
              refine kz_nlt X (by first | omega | (have := wd_no_lt (wd_w_take hw (w.length - i)); omega) | (have := wd_no_lt hw; omega)) kd_Dm_keepWord_40 ?_
              refine lv_aload_n hx hb kd_Dm_keepWord_43 rfl (lv_at hl 2 rfl) ?_
              refine kg_Dm_58 X U 0 rfl rfl kd_Dm_keepWord_44 ?_
              refine lv_iload_n hx hb kd_Dm_keepWord_47 rfl (lv_at hl 0 rfl) ?_
              refine kz_bp X 97 kd_Dm_keepWord_48 (by decide) ?_
              refine lv_iload_n hx hb kd_Dm_keepWord_50 rfl (lv_at hl 1 rfl) ?_
              refine kz_ic X 1 kd_Dm_keepWord_51 (by decide) ?_
              refine kz_isub X (by first | omega | (have := wd_no_lt (wd_w_take hw (w.length - i)); omega) | (have := wd_no_lt hw; omega)) kd_Dm_keepWord_52 ?_
              refine kz_ic X 3 kd_Dm_keepWord_53 (by decide) ?_
              refine kz_irem X (by first | omega | (have := wd_no_lt (wd_w_take hw (w.length - i)); omega) | (have := wd_no_lt hw; omega)) (by omega) (by omega) kd_Dm_keepWord_54 ?_
              refine kz_iadd X kd_Dm_keepWord_55 ?_
              refine kz_top (y := nI (97 + (((wd_no (w.take (j + 1))) - 1) % 3))) rfl ?_
              refine lv_i2c (v := nI (w[j])) hx hb kd_Dm_keepWord_56 (by rw [i2c_n (by omega)]; congr 1; omega) ?_
              refine kz_cast (k := j) X U 1 rfl (by omega) (by omega) (vp_nar_c (by omega)) kd_Dm_keepWord_57 (fun H locs U => ?_)
              rw [kz_updN] at U
              have U : kz_U D q s A [(hd, .inr (5, [.ref bb, .int (nI nb), .ref tl, .ref wl, .ref pp, .ref rd, .ref hm, .ref lt, .int (nI w.length)])), (lt, .inl (q 1, 4, .inl (fun x_ => nI ((va_up lf j (w[j])) x_))))] H locs := U
              refine lv_iload_n hx hb kd_Dm_keepWord_58 rfl (lv_at hl 1 rfl) ?_
              refine kz_ic X 1 kd_Dm_keepWord_59 (by decide) ?_
              refine kz_isub X (by first | omega | (have := wd_no_lt (wd_w_take hw (w.length - i)); omega) | (have := wd_no_lt hw; omega)) kd_Dm_keepWord_60 ?_
              refine kz_ic X 3 kd_Dm_keepWord_61 (by decide) ?_
              refine kz_idiv X (by first | omega | (have := wd_no_lt (wd_w_take hw (w.length - i)); omega) | (have := wd_no_lt hw; omega)) (by omega) (by omega) kd_Dm_keepWord_62 ?_
              refine lv_istore_n hx hb kd_Dm_keepWord_63 rfl hl (by decide) rfl (fun ls hl => ?_)
              have hl : lv_has ls 4 [(2, .int (nI (((wd_no (w.take (j + 1))) - 1) / 3))), (3, .int (nI j)), (0, .ref hd)] := hl
              refine lv_iinc (k := 1) (v := nI j + (-1)) hx hb kd_Dm_keepWord_64 hl rfl rfl (by decide) rfl (fun ls hl => ?_)
              have hl : lv_has ls 4 [(3, .int (nI j + (-1))), (2, .int (nI (((wd_no (w.take (j + 1))) - 1) / 3))), (0, .ref hd)] := hl
              refine lv_goto hx hb kd_Dm_keepWord_67 rfl ?_
              rw [show (wd_no (w.take (j + 1)) - 1) / 3 = wd_no (w.take j) by omega] at hl
              exact ih39 j _ _ _ _ (by omega) (by omega) (fun i h h2 => if e : i = j then (by subst e; rw [va_up_eq']) else (by rw [va_up_ne' e]; exact hlf i h (by omega))) (lv_sub hl [0, 1, 2] rfl) U
        rw [show wd_no w = wd_no (w.take w.length) by rw [List.take_length]] at hl
        exact loop39 _ w.length le _ _ _ (Nat.lt_succ_self _) (by omega) (fun i h h2 => absurd h2 (by omega)) (lv_sub hl [0, 1, 2] rfl) U
      · refine lv_aload_n hx hb kd_Dm_keepWord_11 rfl (lv_at hl 1 rfl) ?_
        refine lv_dup hx hb kd_Dm_keepWord_12 rfl ?_
        refine kg_Dm_61 X U 0 rfl rfl kd_Dm_keepWord_13 ?_
        refine kz_ic X 1 kd_Dm_keepWord_16 (by decide) ?_
        refine kz_iadd X kd_Dm_keepWord_17 ?_
        refine kz_top (y := nI (i + 1)) rfl ?_
        refine kp_Dm_61 X U 0 rfl (Nat.le_of_ble_eq_true rfl) kd_Dm_keepWord_18 (fun H locs U => ?_)
        have U : kz_U D q s A [(hd, .inr (5, [.ref bb, .int (nI nb), .ref tl, .ref wl, .ref pp, .ref rd, .ref hm, .ref lt, .int (nI (i + 1))])), (lt, .inl (q 1, 4, .inl (fun x_ => nI (le x_))))] H locs := U
        have hil : i < w.length := by
          rcases Nat.eq_zero_or_pos (w.length - i) with z | z
          · rw [z] at h8; exact absurd h8 (Nat.lt_irrefl 0)
          · omega
        have hiw : w.length - (i + 1) < w.length := by omega
        have h1_ := wd_last hiw
        have h2_ := wd_at hw hiw
        rw [show w.length - (i + 1) + 1 = w.length - i by omega] at h1_
        have e7_ : (wd_no (w.take (w.length - i)) - 1) / 3 = wd_no (w.take (w.length - (i + 1))) := by omega
        refine lv_iload_n hx hb kd_Dm_keepWord_21 rfl (lv_at hl 0 rfl) ?_
        refine kz_ic X 1 kd_Dm_keepWord_22 (by decide) ?_
        refine kz_isub X (by first | omega | (have := wd_no_lt (wd_w_take hw (w.length - i)); omega) | (have := wd_no_lt hw; omega)) kd_Dm_keepWord_23 ?_
        refine kz_ic X 3 kd_Dm_keepWord_24 (by decide) ?_
        refine kz_idiv X (by first | omega | (have := wd_no_lt (wd_w_take hw (w.length - i)); omega) | (have := wd_no_lt hw; omega)) (by omega) (by omega) kd_Dm_keepWord_25 ?_
        refine lv_istore_n hx hb kd_Dm_keepWord_26 rfl hl (by decide) rfl (fun ls hl => ?_)
        have hl : lv_has ls 4 [(2, .int (nI (((wd_no (w.take (w.length - i))) - 1) / 3))), (0, .ref hd), (1, .int (nI (wd_no w)))] := hl
        refine lv_goto hx hb kd_Dm_keepWord_27 rfl ?_
        rw [e7_] at hl
        exact ih7 (i + 1) _ _ _ (by omega) (by omega) (lv_sub hl [0, 1, 2] rfl) U
  have hl : lv_has ls 4 [(2, .int (nI (wd_no (w.take (w.length - 0))))), (0, .ref hd), (1, .int (nI (wd_no w)))] := by rw [Nat.sub_zero, List.take_length]; exact hl
  exact loop7 _ 0 _ _ _ (Nat.lt_succ_self _) (by omega) (lv_sub hl [0, 1, 2] rfl) U

set_option maxHeartbeats 4000000 in
set_option maxRecDepth 100000 in
theorem cm_Dm_noteWords (l : Launch) (D : va_G) (q : Nat → ClassId) (hd bb tl wl wc pp rd hm lt nb nl b wa : Nat) (x : Int32) (fw : Nat → Bool) (hb84 : b ≤ 84) : kz_Mv (S := Unit) l ky_Dm_noteWords kb_Dm_noteWords 7 2 D q [.ref hd, .int (nI b), .int x, .ref wa] [(hd, .inr (5, [.ref bb, .int (nI nb), .ref tl, .ref wl, .ref pp, .ref rd, .ref hm, .ref lt, .int (nI nl)])), (wl, .inr (0, [.ref wc, .int (nI 84), .int (nI 4)])), (wc, .inl (q 1, 84, .inl (fun x_ => nI (aw_ x_)))), (wa, .inl (q 2, 121, .inl (fun x_ => nB (fw x_))))] (fun _ => True) (fun _ => [(hd, .inr (5, [.ref bb, .int (nI nb), .ref tl, .ref wl, .ref pp, .ref rd, .ref hm, .ref lt, .int (nI nl)])), (wl, .inr (0, [.ref wc, .int (nI 84), .int (nI 4)])), (wc, .inl (q 1, 84, .inl (fun x_ => nI (aw_ x_)))), (wa, .inl (q 2, 121, .inl (fun x_ => nB ((wd_put x b fw (min 4 (84 - b))) x_))))]) := by
  intro sz_
  refine kz_go (by decide +kernel) (Nat.le_of_ble_eq_true rfl) ?_
  intro p e s m below meth c ls args A Q H locs hQ hA X U hl
  have hx := X.1
  have hb := X.2.1
  have hl : lv_has ls 7 [(0, .ref hd), (1, .int (nI b)), (2, .int x), (3, .ref wa)] := hl
  refine lv_aload_n hx hb kd_Dm_noteWords_0 rfl (lv_at hl 0 rfl) ?_
  refine kg_Dm_34 X U 0 rfl rfl kd_Dm_noteWords_1 ?_
  refine lv_iload_n hx hb kd_Dm_noteWords_4 rfl (lv_at hl 1 rfl) ?_
  refine kz_cVi (av := [.int (nI b)]) (rest := []) (wr := [(hd, .inr (5, [.ref bb, .int (nI nb), .ref tl, .ref wl, .ref pp, .ref rd, .ref hm, .ref lt, .int (nI nl)])), (wc, .inl (q 1, 84, .inl (fun x_ => nI (aw_ x_)))), (wa, .inl (q 2, 121, .inl (fun x_ => nB (fw x_))))]) X U hl.1 (cm_Ln_reach l D q wl wc 84 4 b hb84 (by omega) (by omega)) (by decide) (by decide) ⟨by decide, by decide⟩ tb_414 tb_354 tb_355 1 rfl rfl tb_2 tb_356 kq_Ln_reach [1] [0, 2, 3] (by decide) rfl rfl (by decide) (by decide) rfl (Nat.le_of_ble_eq_true rfl) kd_Dm_noteWords_5 (fun rv _ H locs hp U => ?_)
  subst hp
  have U : kz_U D q s A [(hd, .inr (5, [.ref bb, .int (nI nb), .ref tl, .ref wl, .ref pp, .ref rd, .ref hm, .ref lt, .int (nI nl)])), (wl, .inr (0, [.ref wc, .int (nI 84), .int (nI 4)])), (wc, .inl (q 1, 84, .inl (fun x_ => nI (aw_ x_)))), (wa, .inl (q 2, 121, .inl (fun x_ => nB (fw x_))))] H locs := U.sub [0, 3, 1, 2] (by decide) rfl
  refine lv_istore hx hb kd_Dm_noteWords_8 hl (by decide) rfl (fun ls hl => ?_)
  have hl : lv_has ls 7 [(4, .int (nI (min 4 (84 - b)))), (0, .ref hd), (1, .int (nI b)), (2, .int x), (3, .ref wa)] := hl
  refine kz_ic X 0 kd_Dm_noteWords_10 (by decide) ?_
  refine lv_istore hx hb kd_Dm_noteWords_11 hl (by decide) rfl (fun ls hl => ?_)
  have hl : lv_has ls 7 [(5, .int (nI 0)), (4, .int (nI (min 4 (84 - b)))), (0, .ref hd), (1, .int (nI b)), (2, .int x), (3, .ref wa)] := hl
  refine lv_aload_n hx hb kd_Dm_noteWords_13 rfl (lv_at hl 5 rfl) ?_
  refine lv_iload hx hb kd_Dm_noteWords_14 (lv_at hl 0 rfl) ?_
  refine lv_iload_n hx hb kd_Dm_noteWords_16 rfl (lv_at hl 4 rfl) ?_
  refine kz_ic X 0 kd_Dm_noteWords_17 (by decide) ?_
  refine kz_cSi (av := [.int x, .int (nI 0)]) (rest := [.int (nI 0), .ref wa]) (wr := [(hd, .inr (5, [.ref bb, .int (nI nb), .ref tl, .ref wl, .ref pp, .ref rd, .ref hm, .ref lt, .int (nI nl)])), (wl, .inr (0, [.ref wc, .int (nI 84), .int (nI 4)])), (wc, .inl (q 1, 84, .inl (fun x_ => nI (aw_ x_)))), (wa, .inl (q 2, 121, .inl (fun x_ => nB (fw x_))))]) X U hl.1 (cm_Dm_has l D q x 0 (by omega)) (by decide) (by decide) ⟨by decide, by decide⟩ tb_383 tb_359 tb_1 tb_360 kq_Dm_has [] [0, 1, 2, 3] (by decide) rfl rfl (by decide) (by decide) rfl (Nat.le_of_ble_eq_true rfl) kd_Dm_noteWords_18 (fun rv _ H locs hp U => ?_)
  subst hp
  have U : kz_U D q s A [(hd, .inr (5, [.ref bb, .int (nI nb), .ref tl, .ref wl, .ref pp, .ref rd, .ref hm, .ref lt, .int (nI nl)])), (wl, .inr (0, [.ref wc, .int (nI 84), .int (nI 4)])), (wc, .inl (q 1, 84, .inl (fun x_ => nI (aw_ x_)))), (wa, .inl (q 2, 121, .inl (fun x_ => nB (fw x_))))] H locs := U
  refine kz_zast (k := 0) X U 3 rfl (by omega) (by omega) kd_Dm_noteWords_21 (fun H locs U => ?_)
  rw [kz_updB] at U
  have U : kz_U D q s A [(hd, .inr (5, [.ref bb, .int (nI nb), .ref tl, .ref wl, .ref pp, .ref rd, .ref hm, .ref lt, .int (nI nl)])), (wl, .inr (0, [.ref wc, .int (nI 84), .int (nI 4)])), (wc, .inl (q 1, 84, .inl (fun x_ => nI (aw_ x_)))), (wa, .inl (q 2, 121, .inl (fun x_ => nB ((va_up fw 0 (bt x 0)) x_))))] H locs := U
  refine kz_ic X 1 kd_Dm_noteWords_22 (by decide) ?_
  refine lv_istore hx hb kd_Dm_noteWords_23 hl (by decide) rfl (fun ls hl => ?_)
  have hl : lv_has ls 7 [(6, .int (nI 1)), (5, .int (nI 0)), (4, .int (nI (min 4 (84 - b)))), (0, .ref hd), (1, .int (nI b)), (2, .int x), (3, .ref wa)] := hl
  have loop25 : ∀ (fuel : Nat) (r : Nat) (ls : Array Slot) (H : Heap) (locs : List Loc), min 4 (84 - b) + 1 - r < fuel → (r ≤ min 4 (84 - b)) → lv_has ls 7 [(6, .int (nI (r + 1))), (5, .int (nI (wd_no (dm_cut aw_ b r)))), (4, .int (nI (min 4 (84 - b)))), (0, .ref hd), (1, .int (nI b)), (2, .int x), (3, .ref wa)] → kz_U D q s A [(hd, .inr (5, [.ref bb, .int (nI nb), .ref tl, .ref wl, .ref pp, .ref rd, .ref hm, .ref lt, .int (nI nl)])), (wl, .inr (0, [.ref wc, .int (nI 84), .int (nI 4)])), (wc, .inl (q 1, 84, .inl (fun x_ => nI (aw_ x_)))), (wa, .inl (q 2, 121, .inl (fun x_ => nB ((wd_put x b fw r) x_))))] H locs → W p l e (kz_rm 2) s m args below meth c H locs 0 0 Q (F0 m 25 ls []) := by
    intro fuel
    induction fuel with
    | zero => intro r ls H locs hme; exact absurd hme (Nat.not_lt_zero _)
    | succ fuel ih25 =>
      intro r ls H locs hme hr hl U
      refine lv_iload hx hb kd_Dm_noteWords_25 (lv_at hl 0 rfl) ?_
      refine lv_iload hx hb kd_Dm_noteWords_27 (lv_at hl 2 rfl) ?_
      refine kz_icgt X (by first | omega | (have := wd_no_lt (aw_w (b := b) (l := r) (by omega)); have := aw_in (b + (r + 1) - 1); omega)) (by first | omega | (have := wd_no_lt (aw_w (b := b) (l := r) (by omega)); have := aw_in (b + (r + 1) - 1); omega)) kd_Dm_noteWords_29 rfl (fun h29 => ?_) (fun h29 => ?_)
      · exact kz_ev hQ hA X U (()) (by rw [show r = min 4 (84 - b) by omega]) (trivial) kd_Dm_noteWords_74
      · refine kz_ic X 3 kd_Dm_noteWords_32 (by decide) ?_
        refine lv_iload hx hb kd_Dm_noteWords_33 (lv_at hl 1 rfl) ?_
        refine kz_imul X kd_Dm_noteWords_35 ?_
        refine kz_top (y := nI (3 * (wd_no (dm_cut aw_ b r)))) rfl ?_
        refine kz_ic X 1 kd_Dm_noteWords_36 (by decide) ?_
        refine kz_iadd X kd_Dm_noteWords_37 ?_
        refine kz_top (y := nI (3 * (wd_no (dm_cut aw_ b r)) + 1)) rfl ?_
        refine lv_aload_n hx hb kd_Dm_noteWords_38 rfl (lv_at hl 3 rfl) ?_
        refine kg_Dm_34 X U 0 rfl rfl kd_Dm_noteWords_39 ?_
        refine kg_Dm_91 X U 1 rfl rfl kd_Dm_noteWords_42 ?_
        refine lv_iload_n hx hb kd_Dm_noteWords_45 rfl (lv_at hl 4 rfl) ?_
        refine lv_iload hx hb kd_Dm_noteWords_46 (lv_at hl 0 rfl) ?_
        refine kz_iadd X kd_Dm_noteWords_48 ?_
        refine kz_top (y := nI (b + (r + 1))) rfl ?_
        refine kz_ic X 1 kd_Dm_noteWords_49 (by decide) ?_
        refine kz_isub X (by first | omega | (have := wd_no_lt (aw_w (b := b) (l := r) (by omega)); have := aw_in (b + (r + 1) - 1); omega)) kd_Dm_noteWords_50 ?_
        refine kz_cald (k := (b + (r + 1)) - 1) X U 2 rfl (by omega) (by omega) kd_Dm_noteWords_51 ?_
        refine kz_top (y := nI (aw_ ((b + (r + 1)) - 1))) rfl ?_
        refine kz_iadd X kd_Dm_noteWords_52 ?_
        refine kz_top (y := nI (3 * (wd_no (dm_cut aw_ b r)) + 1 + (aw_ ((b + (r + 1)) - 1)))) rfl ?_
        refine kz_bp X 97 kd_Dm_noteWords_53 (by decide) ?_
        refine kz_isub X (by first | omega | (have := wd_no_lt (aw_w (b := b) (l := r) (by omega)); have := aw_in (b + (r + 1) - 1); omega)) kd_Dm_noteWords_55 ?_
        refine kz_top (y := nI (wd_no (dm_cut aw_ b (r + 1)))) (congrArg nI (aw_no b r)) ?_
        refine lv_istore hx hb kd_Dm_noteWords_56 hl (by decide) rfl (fun ls hl => ?_)
        have hl : lv_has ls 7 [(5, .int (nI (wd_no (dm_cut aw_ b (r + 1))))), (6, .int (nI (r + 1))), (4, .int (nI (min 4 (84 - b)))), (0, .ref hd), (1, .int (nI b)), (2, .int x), (3, .ref wa)] := hl
        refine lv_aload_n hx hb kd_Dm_noteWords_58 rfl (lv_at hl 6 rfl) ?_
        refine lv_iload hx hb kd_Dm_noteWords_59 (lv_at hl 0 rfl) ?_
        refine lv_iload_n hx hb kd_Dm_noteWords_61 rfl (lv_at hl 5 rfl) ?_
        refine lv_iload hx hb kd_Dm_noteWords_62 (lv_at hl 1 rfl) ?_
        refine kz_cSi (av := [.int x, .int (nI (r + 1))]) (rest := [.int (nI (wd_no (dm_cut aw_ b (r + 1)))), .ref wa]) (wr := [(hd, .inr (5, [.ref bb, .int (nI nb), .ref tl, .ref wl, .ref pp, .ref rd, .ref hm, .ref lt, .int (nI nl)])), (wl, .inr (0, [.ref wc, .int (nI 84), .int (nI 4)])), (wc, .inl (q 1, 84, .inl (fun x_ => nI (aw_ x_)))), (wa, .inl (q 2, 121, .inl (fun x_ => nB ((wd_put x b fw r) x_))))]) X U hl.1 (cm_Dm_has l D q x (r + 1) (by omega)) (by decide) (by decide) ⟨by decide, by decide⟩ tb_383 tb_359 tb_1 tb_360 kq_Dm_has [] [0, 1, 2, 3] (by decide) rfl rfl (by decide) (by decide) rfl (Nat.le_of_ble_eq_true rfl) kd_Dm_noteWords_64 (fun rv _ H locs hp U => ?_)
        subst hp
        have U : kz_U D q s A [(hd, .inr (5, [.ref bb, .int (nI nb), .ref tl, .ref wl, .ref pp, .ref rd, .ref hm, .ref lt, .int (nI nl)])), (wl, .inr (0, [.ref wc, .int (nI 84), .int (nI 4)])), (wc, .inl (q 1, 84, .inl (fun x_ => nI (aw_ x_)))), (wa, .inl (q 2, 121, .inl (fun x_ => nB ((wd_put x b fw r) x_))))] H locs := U
        refine kz_zast (k := wd_no (dm_cut aw_ b (r + 1))) X U 3 rfl (wd_no_lt (aw_w (by omega))) (by omega) kd_Dm_noteWords_67 (fun H locs U => ?_)
        rw [kz_updB] at U
        have U : kz_U D q s A [(hd, .inr (5, [.ref bb, .int (nI nb), .ref tl, .ref wl, .ref pp, .ref rd, .ref hm, .ref lt, .int (nI nl)])), (wl, .inr (0, [.ref wc, .int (nI 84), .int (nI 4)])), (wc, .inl (q 1, 84, .inl (fun x_ => nI (aw_ x_)))), (wa, .inl (q 2, 121, .inl (fun x_ => nB ((va_up (wd_put x b fw r) (wd_no (dm_cut aw_ b (r + 1))) (bt x (r + 1))) x_))))] H locs := U
        refine lv_iinc (k := 1) (v := nI (r + 1 + 1)) hx hb kd_Dm_noteWords_68 hl rfl (nI_add (r + 1) 1) (by decide) rfl (fun ls hl => ?_)
        have hl : lv_has ls 7 [(6, .int (nI (r + 1 + 1))), (5, .int (nI (wd_no (dm_cut aw_ b (r + 1))))), (4, .int (nI (min 4 (84 - b)))), (0, .ref hd), (1, .int (nI b)), (2, .int x), (3, .ref wa)] := hl
        refine lv_goto hx hb kd_Dm_noteWords_71 rfl ?_
        exact ih25 (r + 1) _ _ _ (by omega) (by omega) (lv_sub hl [0, 1, 2, 3, 4, 5, 6] rfl) U
  exact loop25 _ 0 _ _ _ (Nat.lt_succ_self _) (by omega) (lv_sub hl [0, 1, 2, 3, 4, 5, 6] rfl) U
