set_option maxHeartbeats 4000000 in
set_option maxRecDepth 100000 in
theorem cm_Mc_complement (l : Launch) (D : va_G) (q : Nat → ClassId) (h0 h1 n M a1 : Nat) (f : Nat → Int32) (hn : n ≤ 84) (hM : M ≤ 24) : kz_Mv (S := Unit) l ky_Mc_complement kb_Mc_complement 3 2 D q [.ref h0, .ref a1] [(h0, .inr (0, [.ref h1, .int (nI n), .int (nI M)])), (a1, .inl (q 0, 85, .inl f))] (fun _ => True) (fun _ => [(h0, .inr (0, [.ref h1, .int (nI n), .int (nI M)])), (a1, .inl (q 0, 85, .inl (kz_fl (fun j => (f j ^^^ (-1)) &&& ro_mask (min M (n - j))) f (n + 1))))]) := by
  intro sz
  refine kz_go (by decide +kernel) (Nat.le_of_ble_eq_true rfl) ?_
  intro p e s m below meth c ls args A Q H locs hQ hA X U hl
  have hx := X.1
  have hb := X.2.1
  have hl : lv_has ls 3 [(0, .ref h0), (1, .ref a1)] := hl
  refine kz_ic X 0 kd_Mc_complement_0 (by decide) ?_
  refine lv_istore_n hx hb kd_Mc_complement_1 rfl hl (by decide) rfl (fun ls hl => ?_)
  have hl : lv_has ls 3 [(2, .int (nI 0)), (0, .ref h0), (1, .ref a1)] := hl
  have loop2 : ∀ (fuel : Nat) (i : Nat) (ls : Array Slot) (H : Heap) (locs : List Loc), n + 1 - i < fuel → (i ≤ n + 1) → lv_has ls 3 [(2, .int (nI i)), (0, .ref h0), (1, .ref a1)] → kz_U D q s A [(h0, .inr (0, [.ref h1, .int (nI n), .int (nI M)])), (a1, .inl (q 0, 85, .inl (kz_fl (fun j => (f j ^^^ (-1)) &&& ro_mask (min M (n - j))) f i)))] H locs → W p l e (kz_rm 2) s m args below meth c H locs 0 0 Q (F0 m 2 ls []) := by
    intro fuel
    induction fuel with
    | zero => intro i ls H locs hme; exact absurd hme (Nat.not_lt_zero _)
    | succ fuel ih2 =>
      intro i ls H locs hme hi hl U
      refine lv_iload_n hx hb kd_Mc_complement_2 rfl (lv_at hl 0 rfl) ?_
      refine lv_aload_n hx hb kd_Mc_complement_3 rfl (lv_at hl 1 rfl) ?_
      refine kg_Mc_65 X U 0 rfl rfl kd_Mc_complement_4 ?_
      refine kz_icgt X (by omega) (by omega) kd_Mc_complement_7 rfl (fun h7 => ?_) (fun h7 => ?_)
      · exact kz_ev hQ hA X U (()) (by rw [show i = n + 1 by omega]) (trivial) kd_Mc_complement_33
      · refine lv_aload_n hx hb kd_Mc_complement_10 rfl (lv_at hl 2 rfl) ?_
        refine lv_iload_n hx hb kd_Mc_complement_11 rfl (lv_at hl 0 rfl) ?_
        refine lv_aload_n hx hb kd_Mc_complement_12 rfl (lv_at hl 2 rfl) ?_
        refine lv_iload_n hx hb kd_Mc_complement_13 rfl (lv_at hl 0 rfl) ?_
        refine kz_iald (k := i) X U 1 rfl (by omega) (by omega) kd_Mc_complement_14 ?_
        refine lv_iconst (v := (-1)) hx hb kd_Mc_complement_15 (by decide) ?_
        refine lv_ixor hx hb kd_Mc_complement_16 ?_
        refine lv_aload_n hx hb kd_Mc_complement_17 rfl (lv_at hl 1 rfl) ?_
        refine lv_iload_n hx hb kd_Mc_complement_18 rfl (lv_at hl 0 rfl) ?_
        refine kz_cVi (av := [.int (nI i)]) (rest := [.int (((kz_fl (fun j => (f j ^^^ (-1)) &&& ro_mask (min M (n - j))) f i) i) ^^^ ((-1))), .int (nI i), .ref a1]) (wr := [(a1, .inl (q 0, 85, .inl (kz_fl (fun j => (f j ^^^ (-1)) &&& ro_mask (min M (n - j))) f i)))]) X U hl.1 (cm_Ln_reach l D q h0 h1 n M i (by omega) hn hM) (by decide) (by decide) ⟨by decide, by decide⟩ tb_353 tb_354 tb_355 0 rfl rfl tb_2 tb_356 kq_Ln_reach [0] [1] (by decide) rfl rfl (by decide) (by decide) rfl (Nat.le_of_ble_eq_true rfl) kd_Mc_complement_19 (fun rv _ H locs hp U => ?_)
        subst hp
        have U : kz_U D q s A [(h0, .inr (0, [.ref h1, .int (nI n), .int (nI M)])), (a1, .inl (q 0, 85, .inl (kz_fl (fun j => (f j ^^^ (-1)) &&& ro_mask (min M (n - j))) f i)))] H locs := U.sub [1, 0] (by decide) rfl
        refine kz_cNi (av := [.int (nI (min M (n - i)))]) (rest := [.int (((kz_fl (fun j => (f j ^^^ (-1)) &&& ro_mask (min M (n - j))) f i) i) ^^^ ((-1))), .int (nI i), .ref a1]) (wr := [(h0, .inr (0, [.ref h1, .int (nI n), .int (nI M)])), (a1, .inl (q 0, 85, .inl (kz_fl (fun j => (f j ^^^ (-1)) &&& ro_mask (min M (n - j))) f i)))]) X U hl.1 (cm_Dm_lengthsUpTo l D q (min M (n - i))) (by decide) (by decide) ⟨by decide, by decide⟩ (List.mem_of_getElem? (i := 1) rfl) tb_362 tb_1 tb_363 kq_Dm_lengthsUpTo [] [0, 1] (by decide) rfl rfl (by decide) (by decide) rfl (Nat.le_of_ble_eq_true rfl) kd_Mc_complement_22 (fun rv _ H locs hp U => ?_)
        subst hp
        have U : kz_U D q s A [(h0, .inr (0, [.ref h1, .int (nI n), .int (nI M)])), (a1, .inl (q 0, 85, .inl (kz_fl (fun j => (f j ^^^ (-1)) &&& ro_mask (min M (n - j))) f i)))] H locs := U
        refine lv_iand hx hb kd_Mc_complement_25 ?_
        refine kz_iast (k := i) X U 1 rfl (by omega) (by omega) kd_Mc_complement_26 (fun H locs U => ?_)
        have U : kz_U D q s A [(h0, .inr (0, [.ref h1, .int (nI n), .int (nI M)])), (a1, .inl (q 0, 85, .inl (upd (kz_fl (fun j => (f j ^^^ (-1)) &&& ro_mask (min M (n - j))) f i) i ((((kz_fl (fun j => (f j ^^^ (-1)) &&& ro_mask (min M (n - j))) f i) i) ^^^ ((-1))) &&& (ro_mask (min M (n - i)))))))] H locs := U
        refine lv_iinc (k := 0) (v := nI (i + 1)) hx hb kd_Mc_complement_27 hl rfl (nI_add i 1) (by decide) rfl (fun ls hl => ?_)
        have hl : lv_has ls 3 [(2, .int (nI (i + 1))), (0, .ref h0), (1, .ref a1)] := hl
        refine lv_goto hx hb kd_Mc_complement_30 rfl ?_
        have U : kz_U D q s A [(h0, .inr (0, [.ref h1, .int (nI n), .int (nI M)])), (a1, .inl (q 0, 85, .inl (kz_fl (fun j => (f j ^^^ (-1)) &&& ro_mask (min M (n - j))) f (i + 1))))] H locs := by rw [← kz_fl_s (F := fun j => (f j ^^^ (-1)) &&& ro_mask (min M (n - j))) (v := (((kz_fl (fun j => (f j ^^^ (-1)) &&& ro_mask (min M (n - j))) f i) i) ^^^ ((-1))) &&& (ro_mask (min M (n - i)))) (by rw [kz_fl_at])]; exact U
        exact ih2 (i + 1) _ _ _ (by omega) (by omega) (lv_sub hl [0, 1, 2] rfl) U
  have U : kz_U D q s A [(h0, .inr (0, [.ref h1, .int (nI n), .int (nI M)])), (a1, .inl (q 0, 85, .inl (kz_fl (fun j => (f j ^^^ (-1)) &&& ro_mask (min M (n - j))) f 0)))] H locs := by rw [kz_fl_0]; exact U
  exact loop2 _ 0 _ _ _ (Nat.lt_succ_self _) (by omega) (lv_sub hl [0, 1, 2] rfl) U

theorem ro_thr_t {x : Int32} {g : Nat → Int32} {b r : Nat} (h : bt x r = true) : ro_thr x g b r ||| (g (b + r) <<< (nI r &&& 31)) = ro_thr x g b (r + 1) := by
  show _ = if bt x r = true then ro_thr x g b r ||| (g (b + r) <<< (nI r &&& 31)) else ro_thr x g b r
  rw [if_pos h]
theorem ro_thr_f {x : Int32} {g : Nat → Int32} {b r : Nat} (h : bt x r = false) : ro_thr x g b r = ro_thr x g b (r + 1) := by
  show _ = if bt x r = true then ro_thr x g b r ||| (g (b + r) <<< (nI r &&& 31)) else ro_thr x g b r
  rw [if_neg (by rw [h]; decide)]

set_option maxHeartbeats 4000000 in
set_option maxRecDepth 100000 in
theorem cm_Mc_lengthsThrough (l : Launch) (D : va_G) (q : Nat → ClassId) (h0 h1 n M a2 b : Nat) (x : Int32) (g : Nat → Int32) (hbn : b ≤ n) (hn : n ≤ 84) (hM : M ≤ 24) : kz_Mi (S := Unit) l ky_Mc_lengthsThrough kb_Mc_lengthsThrough 7 (some .int) 2 D q [.ref h0, .int (nI b), .int x, .ref a2] [(h0, .inr (0, [.ref h1, .int (nI n), .int (nI M)])), (a2, .inl (q 0, 85, .inl g))] (fun r _ => r = ro_lt n M x g b) (fun _ => [(h0, .inr (0, [.ref h1, .int (nI n), .int (nI M)])), (a2, .inl (q 0, 85, .inl g))]) := by
  intro sz
  refine kz_go (by decide +kernel) (Nat.le_of_ble_eq_true rfl) ?_
  intro p e s m below meth c ls args A Q H locs hQ hA X U hl
  have hx := X.1
  have hb := X.2.1
  have hl : lv_has ls 7 [(0, .ref h0), (1, .int (nI b)), (2, .int x), (3, .ref a2)] := hl
  refine lv_aload_n hx hb kd_Mc_lengthsThrough_0 rfl (lv_at hl 0 rfl) ?_
  refine lv_iload_n hx hb kd_Mc_lengthsThrough_1 rfl (lv_at hl 1 rfl) ?_
  refine kz_cVi (av := [.int (nI b)]) (rest := []) (wr := [(a2, .inl (q 0, 85, .inl g))]) X U hl.1 (cm_Ln_reach l D q h0 h1 n M b hbn hn hM) (by decide) (by decide) ⟨by decide, by decide⟩ tb_353 tb_354 tb_355 0 rfl rfl tb_2 tb_356 kq_Ln_reach [0] [1] (by decide) rfl rfl (by decide) (by decide) rfl (Nat.le_of_ble_eq_true rfl) kd_Mc_lengthsThrough_2 (fun rv _ H locs hp U => ?_)
  subst hp
  have U : kz_U D q s A [(h0, .inr (0, [.ref h1, .int (nI n), .int (nI M)])), (a2, .inl (q 0, 85, .inl g))] H locs := U.sub [1, 0] (by decide) rfl
  refine lv_istore hx hb kd_Mc_lengthsThrough_5 hl (by decide) rfl (fun ls hl => ?_)
  have hl : lv_has ls 7 [(4, .int (nI (min M (n - b)))), (0, .ref h0), (1, .int (nI b)), (2, .int x), (3, .ref a2)] := hl
  refine kz_ic X 0 kd_Mc_lengthsThrough_7 (by decide) ?_
  refine lv_istore hx hb kd_Mc_lengthsThrough_8 hl (by decide) rfl (fun ls hl => ?_)
  have hl : lv_has ls 7 [(5, .int (nI 0)), (4, .int (nI (min M (n - b)))), (0, .ref h0), (1, .int (nI b)), (2, .int x), (3, .ref a2)] := hl
  refine kz_ic X 0 kd_Mc_lengthsThrough_10 (by decide) ?_
  refine lv_istore hx hb kd_Mc_lengthsThrough_11 hl (by decide) rfl (fun ls hl => ?_)
  have hl : lv_has ls 7 [(6, .int (nI 0)), (5, .int (nI 0)), (4, .int (nI (min M (n - b)))), (0, .ref h0), (1, .int (nI b)), (2, .int x), (3, .ref a2)] := hl
  have loop13 : ∀ (fuel : Nat) (r : Nat) (ls : Array Slot) (H : Heap) (locs : List Loc), min M (n - b) + 1 - r < fuel → (r ≤ min M (n - b) + 1) → lv_has ls 7 [(6, .int (nI r)), (5, .int (ro_thr x g b r)), (4, .int (nI (min M (n - b)))), (0, .ref h0), (1, .int (nI b)), (2, .int x), (3, .ref a2)] → kz_U D q s A [(h0, .inr (0, [.ref h1, .int (nI n), .int (nI M)])), (a2, .inl (q 0, 85, .inl g))] H locs → W p l e (kz_rm 2) s m args below meth c H locs 0 0 Q (F0 m 13 ls []) := by
    intro fuel
    induction fuel with
    | zero => intro r ls H locs hme; exact absurd hme (Nat.not_lt_zero _)
    | succ fuel ih13 =>
      intro r ls H locs hme hr hl U
      refine lv_iload hx hb kd_Mc_lengthsThrough_13 (lv_at hl 0 rfl) ?_
      refine lv_iload hx hb kd_Mc_lengthsThrough_15 (lv_at hl 2 rfl) ?_
      refine kz_icgt X (by omega) (by omega) kd_Mc_lengthsThrough_17 rfl (fun h17 => ?_) (fun h17 => ?_)
      · refine lv_iload hx hb kd_Mc_lengthsThrough_49 (lv_at hl 1 rfl) ?_
        refine lv_iload hx hb kd_Mc_lengthsThrough_51 (lv_at hl 2 rfl) ?_
        refine kz_cNi (av := [.int (nI (min M (n - b)))]) (rest := [.int (ro_thr x g b r)]) (wr := [(h0, .inr (0, [.ref h1, .int (nI n), .int (nI M)])), (a2, .inl (q 0, 85, .inl g))]) X U hl.1 (cm_Dm_lengthsUpTo l D q (min M (n - b))) (by decide) (by decide) ⟨by decide, by decide⟩ (List.mem_of_getElem? (i := 1) rfl) tb_362 tb_1 tb_363 kq_Dm_lengthsUpTo [] [0, 1] (by decide) rfl rfl (by decide) (by decide) rfl (Nat.le_of_ble_eq_true rfl) kd_Mc_lengthsThrough_53 (fun rv _ H locs hp U => ?_)
        subst hp
        have U : kz_U D q s A [(h0, .inr (0, [.ref h1, .int (nI n), .int (nI M)])), (a2, .inl (q 0, 85, .inl g))] H locs := U
        refine lv_iand hx hb kd_Mc_lengthsThrough_56 ?_
        exact kz_ei hQ hA X U (()) rfl (by rw [show r = min M (n - b) + 1 by omega]; rfl) kd_Mc_lengthsThrough_57
      · refine lv_iload_n hx hb kd_Mc_lengthsThrough_20 rfl (lv_at hl 5 rfl) ?_
        refine lv_iload hx hb kd_Mc_lengthsThrough_21 (lv_at hl 0 rfl) ?_
        refine kz_cNi (av := [.int x, .int (nI r)]) (rest := []) (wr := [(h0, .inr (0, [.ref h1, .int (nI n), .int (nI M)])), (a2, .inl (q 0, 85, .inl g))]) X U hl.1 (cm_Dm_has l D q x r (by omega)) (by decide) (by decide) ⟨by decide, by decide⟩ (List.mem_of_getElem? (i := 0) rfl) tb_359 tb_1 tb_360 kq_Dm_has [] [0, 1] (by decide) rfl rfl (by decide) (by decide) rfl (Nat.le_of_ble_eq_true rfl) kd_Mc_lengthsThrough_23 (fun rv _ H locs hp U => ?_)
        subst hp
        have U : kz_U D q s A [(h0, .inr (0, [.ref h1, .int (nI n), .int (nI M)])), (a2, .inl (q 0, 85, .inl g))] H locs := U
        refine kz_ifeqB X kd_Mc_lengthsThrough_26 rfl (fun h26 => ?_) (fun h26 => ?_)
        · refine lv_iinc (k := 0) (v := nI (r + 1)) hx hb kd_Mc_lengthsThrough_43 hl rfl (nI_add r 1) (by decide) rfl (fun ls hl => ?_)
          have hl : lv_has ls 7 [(6, .int (nI (r + 1))), (5, .int (ro_thr x g b r)), (4, .int (nI (min M (n - b)))), (0, .ref h0), (1, .int (nI b)), (2, .int x), (3, .ref a2)] := hl
          refine lv_goto hx hb kd_Mc_lengthsThrough_46 rfl ?_
          rw [ro_thr_f h26] at hl
          exact ih13 (r + 1) _ _ _ (by omega) (by omega) (lv_sub hl [0, 1, 2, 3, 4, 5, 6] rfl) U
        · refine lv_iload hx hb kd_Mc_lengthsThrough_29 (lv_at hl 1 rfl) ?_
          refine lv_aload_n hx hb kd_Mc_lengthsThrough_31 rfl (lv_at hl 6 rfl) ?_
          refine lv_iload_n hx hb kd_Mc_lengthsThrough_32 rfl (lv_at hl 4 rfl) ?_
          refine lv_iload hx hb kd_Mc_lengthsThrough_33 (lv_at hl 0 rfl) ?_
          refine kz_iadd X kd_Mc_lengthsThrough_35 ?_
          refine kz_top (y := nI (b + r)) rfl ?_
          refine kz_iald (k := b + r) X U 1 rfl (by omega) (by omega) kd_Mc_lengthsThrough_36 ?_
          refine lv_iload hx hb kd_Mc_lengthsThrough_37 (lv_at hl 0 rfl) ?_
          refine lv_ishl hx hb kd_Mc_lengthsThrough_39 ?_
          refine lv_ior hx hb kd_Mc_lengthsThrough_40 ?_
          refine kz_top (y := ro_thr x g b (r + 1)) (ro_thr_t h26) ?_
          refine lv_istore hx hb kd_Mc_lengthsThrough_41 hl (by decide) rfl (fun ls hl => ?_)
          have hl : lv_has ls 7 [(5, .int (ro_thr x g b (r + 1))), (6, .int (nI r)), (4, .int (nI (min M (n - b)))), (0, .ref h0), (1, .int (nI b)), (2, .int x), (3, .ref a2)] := hl
          refine lv_iinc (k := 1) (v := nI (r + 1)) hx hb kd_Mc_lengthsThrough_43 hl rfl (nI_add r 1) (by decide) rfl (fun ls hl => ?_)
          have hl : lv_has ls 7 [(6, .int (nI (r + 1))), (5, .int (ro_thr x g b (r + 1))), (4, .int (nI (min M (n - b)))), (0, .ref h0), (1, .int (nI b)), (2, .int x), (3, .ref a2)] := hl
          refine lv_goto hx hb kd_Mc_lengthsThrough_46 rfl ?_
          exact ih13 (r + 1) _ _ _ (by omega) (by omega) (lv_sub hl [0, 1, 2, 3, 4, 5, 6] rfl) U
  exact loop13 _ 0 _ _ _ (Nat.lt_succ_self _) (by omega) (lv_sub hl [0, 1, 2, 3, 4, 5, 6] rfl) U

set_option maxHeartbeats 4000000 in
set_option maxRecDepth 100000 in
theorem cm_Mc_join (l : Launch) (D : va_G) (q : Nat → ClassId) (h0 h1 n M a1 a2 : Nat) (f g : Nat → Int32) (hn : n ≤ 84) (hM : M ≤ 24) : kz_Mv (S := Unit) l ky_Mc_join kb_Mc_join 4 3 D q [.ref h0, .ref a1, .ref a2] [(h0, .inr (0, [.ref h1, .int (nI n), .int (nI M)])), (a1, .inl (q 0, 85, .inl f)), (a2, .inl (q 0, 85, .inl g))] (fun _ => True) (fun _ => [(h0, .inr (0, [.ref h1, .int (nI n), .int (nI M)])), (a1, .inl (q 0, 85, .inl (kz_fl (fun j => ro_lt n M (f j) g j) f (n + 1)))), (a2, .inl (q 0, 85, .inl g))]) := by
  intro sz
  refine kz_go (by decide +kernel) (Nat.le_of_ble_eq_true rfl) ?_
  intro p e s m below meth c ls args A Q H locs hQ hA X U hl
  have hx := X.1
  have hb := X.2.1
  have hl : lv_has ls 4 [(0, .ref h0), (1, .ref a1), (2, .ref a2)] := hl
  refine kz_ic X 0 kd_Mc_join_0 (by decide) ?_
  refine lv_istore_n hx hb kd_Mc_join_1 rfl hl (by decide) rfl (fun ls hl => ?_)
  have hl : lv_has ls 4 [(3, .int (nI 0)), (0, .ref h0), (1, .ref a1), (2, .ref a2)] := hl
  have loop2 : ∀ (fuel : Nat) (i : Nat) (ls : Array Slot) (H : Heap) (locs : List Loc), n + 1 - i < fuel → (i ≤ n + 1) → lv_has ls 4 [(3, .int (nI i)), (0, .ref h0), (1, .ref a1), (2, .ref a2)] → kz_U D q s A [(h0, .inr (0, [.ref h1, .int (nI n), .int (nI M)])), (a1, .inl (q 0, 85, .inl (kz_fl (fun j => ro_lt n M (f j) g j) f i))), (a2, .inl (q 0, 85, .inl g))] H locs → W p l e (kz_rm 3) s m args below meth c H locs 0 0 Q (F0 m 2 ls []) := by
    intro fuel
    induction fuel with
    | zero => intro i ls H locs hme; exact absurd hme (Nat.not_lt_zero _)
    | succ fuel ih2 =>
      intro i ls H locs hme hi hl U
      refine lv_iload_n hx hb kd_Mc_join_2 rfl (lv_at hl 0 rfl) ?_
      refine lv_aload_n hx hb kd_Mc_join_3 rfl (lv_at hl 1 rfl) ?_
      refine kg_Mc_65 X U 0 rfl rfl kd_Mc_join_4 ?_
      refine kz_icgt X (by omega) (by omega) kd_Mc_join_7 rfl (fun h7 => ?_) (fun h7 => ?_)
      · exact kz_ev hQ hA X U (()) (by rw [show i = n + 1 by omega]) (trivial) kd_Mc_join_28
      · refine lv_aload_n hx hb kd_Mc_join_10 rfl (lv_at hl 2 rfl) ?_
        refine lv_iload_n hx hb kd_Mc_join_11 rfl (lv_at hl 0 rfl) ?_
        refine lv_aload_n hx hb kd_Mc_join_12 rfl (lv_at hl 1 rfl) ?_
        refine lv_iload_n hx hb kd_Mc_join_13 rfl (lv_at hl 0 rfl) ?_
        refine lv_aload_n hx hb kd_Mc_join_14 rfl (lv_at hl 2 rfl) ?_
        refine lv_iload_n hx hb kd_Mc_join_15 rfl (lv_at hl 0 rfl) ?_
        refine kz_iald (k := i) X U 1 rfl (by omega) (by omega) kd_Mc_join_16 ?_
        refine lv_aload_n hx hb kd_Mc_join_17 rfl (lv_at hl 3 rfl) ?_
        refine kz_cSi (av := [.ref h0, .int (nI i), .int ((kz_fl (fun j => ro_lt n M (f j) g j) f i) i), .ref a2]) (rest := [.int (nI i), .ref a1]) (wr := [(a1, .inl (q 0, 85, .inl (kz_fl (fun j => ro_lt n M (f j) g j) f i)))]) X U hl.1 (cm_Mc_lengthsThrough l D q h0 h1 n M a2 i (kz_fl (fun j => ro_lt n M (f j) g j) f i i) g (by omega) hn hM) (by decide) (by decide) ⟨by decide, by decide⟩ tb_350 tb_351 tb_10 tb_352 kq_Mc_lengthsThrough [0, 2] [1] (by decide) rfl rfl (by decide) (by decide) rfl (Nat.le_of_ble_eq_true rfl) kd_Mc_join_18 (fun rv _ H locs hp U => ?_)
        subst hp
        have U : kz_U D q s A [(h0, .inr (0, [.ref h1, .int (nI n), .int (nI M)])), (a1, .inl (q 0, 85, .inl (kz_fl (fun j => ro_lt n M (f j) g j) f i))), (a2, .inl (q 0, 85, .inl g))] H locs := U.sub [1, 0, 2] (by decide) rfl
        refine kz_iast (k := i) X U 1 rfl (by omega) (by omega) kd_Mc_join_21 (fun H locs U => ?_)
        have U : kz_U D q s A [(h0, .inr (0, [.ref h1, .int (nI n), .int (nI M)])), (a1, .inl (q 0, 85, .inl (upd (kz_fl (fun j => ro_lt n M (f j) g j) f i) i (ro_lt n M (kz_fl (fun j => ro_lt n M (f j) g j) f i i) g i)))), (a2, .inl (q 0, 85, .inl g))] H locs := U
        refine lv_iinc (k := 0) (v := nI (i + 1)) hx hb kd_Mc_join_22 hl rfl (nI_add i 1) (by decide) rfl (fun ls hl => ?_)
        have hl : lv_has ls 4 [(3, .int (nI (i + 1))), (0, .ref h0), (1, .ref a1), (2, .ref a2)] := hl
        refine lv_goto hx hb kd_Mc_join_25 rfl ?_
        have U : kz_U D q s A [(h0, .inr (0, [.ref h1, .int (nI n), .int (nI M)])), (a1, .inl (q 0, 85, .inl (kz_fl (fun j => ro_lt n M (f j) g j) f (i + 1)))), (a2, .inl (q 0, 85, .inl g))] H locs := by rw [← kz_fl_s (F := fun j => ro_lt n M (f j) g j) (v := ro_lt n M (kz_fl (fun j => ro_lt n M (f j) g j) f i i) g i) (by rw [kz_fl_at])]; exact U
        exact ih2 (i + 1) _ _ _ (by omega) (by omega) (lv_sub hl [0, 1, 2, 3] rfl) U
  have U : kz_U D q s A [(h0, .inr (0, [.ref h1, .int (nI n), .int (nI M)])), (a1, .inl (q 0, 85, .inl (kz_fl (fun j => ro_lt n M (f j) g j) f 0))), (a2, .inl (q 0, 85, .inl g))] H locs := by rw [kz_fl_0]; exact U
  exact loop2 _ 0 _ _ _ (Nat.lt_succ_self _) (by omega) (lv_sub hl [0, 1, 2, 3] rfl) U

set_option maxHeartbeats 4000000 in
set_option maxRecDepth 100000 in
theorem cm_Mc_putRange (l : Launch) (D : va_G) (q : Nat → ClassId) (h0 h1 n M cn a1 lo hi : Nat) (t : Nat → Nat) (f : Nat → Int32) (hcn : n ≤ cn) (hcn2 : cn ≤ 84) (ht : ∀ j, t j < 65536) (hlo : lo < 65536) (hhi : hi < 65536) (hn : n ≤ 84) (hM : M ≤ 24) : kz_Mv (S := Unit) l ky_Mc_putRange kb_Mc_putRange 6 0 D q [.ref h0, .ref a1, .int (nI lo), .int (nI hi)] [(h0, .inr (0, [.ref h1, .int (nI n), .int (nI M)])), (h1, .inl (q 1, cn, .inl (fun j => nI (t j)))), (a1, .inl (q 0, 85, .inl f))] (fun _ => True) (fun _ => [(h0, .inr (0, [.ref h1, .int (nI n), .int (nI M)])), (h1, .inl (q 1, cn, .inl (fun j => nI (t j)))), (a1, .inl (q 0, 85, .inl (kz_fl (fun j => if j < n ∧ lo ≤ t j ∧ t j ≤ hi then 2 else 0) f (n + 1))))]) := by
  intro sz
  refine kz_go (by decide +kernel) (Nat.le_of_ble_eq_true rfl) ?_
  intro p e s m below meth c ls args A Q H locs hQ hA X U hl
  have hx := X.1
  have hb := X.2.1
  have hl : lv_has ls 6 [(0, .ref h0), (1, .ref a1), (2, .int (nI lo)), (3, .int (nI hi))] := hl
  refine kz_ic X 0 kd_Mc_putRange_0 (by decide) ?_
  refine lv_istore hx hb kd_Mc_putRange_1 hl (by decide) rfl (fun ls hl => ?_)
  have hl : lv_has ls 6 [(4, .int (nI 0)), (0, .ref h0), (1, .ref a1), (2, .int (nI lo)), (3, .int (nI hi))] := hl
  have loop3 : ∀ (fuel : Nat) (i : Nat) (ls : Array Slot) (H : Heap) (locs : List Loc), n + 1 - i < fuel → (i ≤ n) → lv_has ls 6 [(4, .int (nI i)), (0, .ref h0), (1, .ref a1), (2, .int (nI lo)), (3, .int (nI hi))] → kz_U D q s A [(h0, .inr (0, [.ref h1, .int (nI n), .int (nI M)])), (h1, .inl (q 1, cn, .inl (fun j => nI (t j)))), (a1, .inl (q 0, 85, .inl (kz_fl (fun j => if j < n ∧ lo ≤ t j ∧ t j ≤ hi then 2 else 0) f i)))] H locs → W p l e (kz_rm 0) s m args below meth c H locs 0 0 Q (F0 m 3 ls []) := by
    intro fuel
    induction fuel with
    | zero => intro i ls H locs hme; exact absurd hme (Nat.not_lt_zero _)
    | succ fuel ih3 =>
      intro i ls H locs hme hi_ hl U
      refine lv_iload hx hb kd_Mc_putRange_3 (lv_at hl 0 rfl) ?_
      refine lv_aload_n hx hb kd_Mc_putRange_5 rfl (lv_at hl 1 rfl) ?_
      refine kg_Mc_65 X U 0 rfl rfl kd_Mc_putRange_6 ?_
      refine kz_icge X (by first | omega | (have := ht i; omega)) (by first | omega | (have := ht i; omega)) kd_Mc_putRange_9 rfl (fun h9 => ?_) (fun h9 => ?_)
      · rw [show i = n by omega] at U
        refine lv_aload_n hx hb kd_Mc_putRange_48 rfl (lv_at hl 2 rfl) ?_
        refine lv_aload_n hx hb kd_Mc_putRange_49 rfl (lv_at hl 1 rfl) ?_
        refine kg_Mc_65 X U 0 rfl rfl kd_Mc_putRange_50 ?_
        refine kz_ic X 0 kd_Mc_putRange_53 (by decide) ?_
        refine kz_iast (k := n) X U 2 rfl (by omega) (by omega) kd_Mc_putRange_54 (fun H locs U => ?_)
        have U : kz_U D q s A [(h0, .inr (0, [.ref h1, .int (nI n), .int (nI M)])), (h1, .inl (q 1, cn, .inl (fun j => nI (t j)))), (a1, .inl (q 0, 85, .inl (upd (kz_fl (fun j => if j < n ∧ lo ≤ t j ∧ t j ≤ hi then 2 else 0) f n) n (nI 0))))] H locs := U
        exact kz_ev hQ hA X U (()) (by rw [← kz_fl_s (F := fun j => if j < n ∧ lo ≤ t j ∧ t j ≤ hi then 2 else 0) (v := nI 0) (if_neg (by omega)).symm]) (trivial) kd_Mc_putRange_55
      · refine lv_aload_n hx hb kd_Mc_putRange_12 rfl (lv_at hl 1 rfl) ?_
        refine kg_Mc_70 X U 0 rfl rfl kd_Mc_putRange_13 ?_
        refine lv_iload hx hb kd_Mc_putRange_16 (lv_at hl 0 rfl) ?_
        refine kz_cald (k := i) X U 1 rfl (by omega) (by omega) kd_Mc_putRange_18 ?_
        refine kz_top (y := nI (t i)) rfl ?_
        refine lv_istore hx hb kd_Mc_putRange_19 hl (by decide) rfl (fun ls hl => ?_)
        have hl : lv_has ls 6 [(5, .int (nI (t i))), (4, .int (nI i)), (0, .ref h0), (1, .ref a1), (2, .int (nI lo)), (3, .int (nI hi))] := hl
        refine lv_aload_n hx hb kd_Mc_putRange_21 rfl (lv_at hl 3 rfl) ?_
        refine lv_iload hx hb kd_Mc_putRange_22 (lv_at hl 1 rfl) ?_
        refine lv_iload hx hb kd_Mc_putRange_24 (lv_at hl 0 rfl) ?_
        refine lv_iload_n hx hb kd_Mc_putRange_26 rfl (lv_at hl 4 rfl) ?_
        refine kz_iclt X (by first | omega | (have := ht i; omega)) (by first | omega | (have := ht i; omega)) kd_Mc_putRange_27 rfl (fun h27 => ?_) (fun h27 => ?_)
        · refine kz_ic X 0 kd_Mc_putRange_40 (by decide) ?_
          refine kz_iast (k := i) X U 2 rfl (by omega) (by omega) kd_Mc_putRange_41 (fun H locs U => ?_)
          have U : kz_U D q s A [(h0, .inr (0, [.ref h1, .int (nI n), .int (nI M)])), (h1, .inl (q 1, cn, .inl (fun j => nI (t j)))), (a1, .inl (q 0, 85, .inl (upd (kz_fl (fun j => if j < n ∧ lo ≤ t j ∧ t j ≤ hi then 2 else 0) f i) i (nI 0))))] H locs := U
          refine lv_iinc (k := 1) (v := nI (i + 1)) hx hb kd_Mc_putRange_42 hl rfl (nI_add i 1) (by decide) rfl (fun ls hl => ?_)
          have hl : lv_has ls 6 [(4, .int (nI (i + 1))), (5, .int (nI (t i))), (0, .ref h0), (1, .ref a1), (2, .int (nI lo)), (3, .int (nI hi))] := hl
          refine lv_goto hx hb kd_Mc_putRange_45 rfl ?_
          have U : kz_U D q s A [(h0, .inr (0, [.ref h1, .int (nI n), .int (nI M)])), (h1, .inl (q 1, cn, .inl (fun j => nI (t j)))), (a1, .inl (q 0, 85, .inl (kz_fl (fun j => if j < n ∧ lo ≤ t j ∧ t j ≤ hi then 2 else 0) f (i + 1))))] H locs := by rw [← kz_fl_s (F := fun j => if j < n ∧ lo ≤ t j ∧ t j ≤ hi then 2 else 0) (v := nI 0) (by first | exact (if_pos ⟨h9, h27, h33⟩).symm | exact (if_neg (by omega)).symm)]; exact U
          exact ih3 (i + 1) _ _ _ (by omega) (by omega) (lv_sub hl [0, 2, 3, 4, 5] rfl) U
        · refine lv_iload hx hb kd_Mc_putRange_30 (lv_at hl 0 rfl) ?_
          refine lv_iload_n hx hb kd_Mc_putRange_32 rfl (lv_at hl 5 rfl) ?_
          refine kz_icgt X (by first | omega | (have := ht i; omega)) (by first | omega | (have := ht i; omega)) kd_Mc_putRange_33 rfl (fun h33 => ?_) (fun h33 => ?_)
          · refine kz_ic X 0 kd_Mc_putRange_40 (by decide) ?_
            refine kz_iast (k := i) X U 2 rfl (by omega) (by omega) kd_Mc_putRange_41 (fun H locs U => ?_)
            have U : kz_U D q s A [(h0, .inr (0, [.ref h1, .int (nI n), .int (nI M)])), (h1, .inl (q 1, cn, .inl (fun j => nI (t j)))), (a1, .inl (q 0, 85, .inl (upd (kz_fl (fun j => if j < n ∧ lo ≤ t j ∧ t j ≤ hi then 2 else 0) f i) i (nI 0))))] H locs := U
            refine lv_iinc (k := 1) (v := nI (i + 1)) hx hb kd_Mc_putRange_42 hl rfl (nI_add i 1) (by decide) rfl (fun ls hl => ?_)
            have hl : lv_has ls 6 [(4, .int (nI (i + 1))), (5, .int (nI (t i))), (0, .ref h0), (1, .ref a1), (2, .int (nI lo)), (3, .int (nI hi))] := hl
            refine lv_goto hx hb kd_Mc_putRange_45 rfl ?_
            have U : kz_U D q s A [(h0, .inr (0, [.ref h1, .int (nI n), .int (nI M)])), (h1, .inl (q 1, cn, .inl (fun j => nI (t j)))), (a1, .inl (q 0, 85, .inl (kz_fl (fun j => if j < n ∧ lo ≤ t j ∧ t j ≤ hi then 2 else 0) f (i + 1))))] H locs := by rw [← kz_fl_s (F := fun j => if j < n ∧ lo ≤ t j ∧ t j ≤ hi then 2 else 0) (v := nI 0) (by first | exact (if_pos ⟨h9, h27, h33⟩).symm | exact (if_neg (by omega)).symm)]; exact U
            exact ih3 (i + 1) _ _ _ (by omega) (by omega) (lv_sub hl [0, 2, 3, 4, 5] rfl) U
          · refine kz_ic X 2 kd_Mc_putRange_36 (by decide) ?_
            refine lv_goto hx hb kd_Mc_putRange_37 rfl ?_
            refine kz_iast (k := i) X U 2 rfl (by omega) (by omega) kd_Mc_putRange_41 (fun H locs U => ?_)
            have U : kz_U D q s A [(h0, .inr (0, [.ref h1, .int (nI n), .int (nI M)])), (h1, .inl (q 1, cn, .inl (fun j => nI (t j)))), (a1, .inl (q 0, 85, .inl (upd (kz_fl (fun j => if j < n ∧ lo ≤ t j ∧ t j ≤ hi then 2 else 0) f i) i (nI 2))))] H locs := U
            refine lv_iinc (k := 1) (v := nI (i + 1)) hx hb kd_Mc_putRange_42 hl rfl (nI_add i 1) (by decide) rfl (fun ls hl => ?_)
            have hl : lv_has ls 6 [(4, .int (nI (i + 1))), (5, .int (nI (t i))), (0, .ref h0), (1, .ref a1), (2, .int (nI lo)), (3, .int (nI hi))] := hl
            refine lv_goto hx hb kd_Mc_putRange_45 rfl ?_
            have U : kz_U D q s A [(h0, .inr (0, [.ref h1, .int (nI n), .int (nI M)])), (h1, .inl (q 1, cn, .inl (fun j => nI (t j)))), (a1, .inl (q 0, 85, .inl (kz_fl (fun j => if j < n ∧ lo ≤ t j ∧ t j ≤ hi then 2 else 0) f (i + 1))))] H locs := by rw [← kz_fl_s (F := fun j => if j < n ∧ lo ≤ t j ∧ t j ≤ hi then 2 else 0) (v := nI 2) (by first | exact (if_pos ⟨h9, h27, h33⟩).symm | exact (if_neg (by omega)).symm)]; exact U
            exact ih3 (i + 1) _ _ _ (by omega) (by omega) (lv_sub hl [0, 2, 3, 4, 5] rfl) U
  have U : kz_U D q s A [(h0, .inr (0, [.ref h1, .int (nI n), .int (nI M)])), (h1, .inl (q 1, cn, .inl (fun j => nI (t j)))), (a1, .inl (q 0, 85, .inl (kz_fl (fun j => if j < n ∧ lo ≤ t j ∧ t j ≤ hi then 2 else 0) f 0)))] H locs := by rw [kz_fl_0]; exact U
  exact loop3 _ 0 _ _ _ (Nat.lt_succ_self _) (by omega) (lv_sub hl [0, 1, 2, 3, 4] rfl) U

