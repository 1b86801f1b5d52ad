theorem kz_updN {t : Nat → Nat} {k x : Nat} : upd (fun j => nI (t j)) k (nI x) = fun j => nI (va_up t k x j) := by
  funext j
  by_cases h : j = k
  · simp [upd, va_up, h]
  · simp [upd, va_up, h]
theorem kz_updB {t : Nat → Bool} {k : Nat} {x : Bool} : upd (fun j => nB (t j)) k (nB x) = fun j => nB (va_up t k x j) := by
  funext j
  by_cases h : j = k
  · simp [upd, va_up, h]
  · simp [upd, va_up, h]
/-- f, of which the first i places are F's already -/
def kz_fl (F f : Nat → Int32) (i : Nat) : Nat → Int32 := fun j => if j < i then F j else f j
theorem kz_fl_0 (F f : Nat → Int32) : kz_fl F f 0 = f := by funext j; simp [kz_fl]
theorem kz_fl_at (F f : Nat → Int32) (i : Nat) : kz_fl F f i i = f i := by simp [kz_fl]
theorem kz_fl_in {F f : Nat → Int32} {i j : Nat} (h : j < i) : kz_fl F f i j = F j := if_pos h
theorem kz_fl_s {F f : Nat → Int32} {i : Nat} {v : Int32} (h : v = F i) : upd (kz_fl F f i) i v = kz_fl F f (i + 1) := by
  funext j
  by_cases e : j = i
  · subst e
    simp [upd, kz_fl, h]
  · by_cases e2 : j < i
    · simp [upd, kz_fl, e, e2, show j < i + 1 by omega]
    · simp [upd, kz_fl, e, e2, show ¬ j < i + 1 by omega]
theorem has_v (x : Int32) {k : Nat} (hk : k < 32) : (x >>> (nI k &&& 31)) &&& nI 1 = nB (bt x k) := by
  apply b_ext
  intro i hi
  rw [b_and, b_sshr k hk x hi, show nI 1 = 1 from rfl, ro_one_bt]
  by_cases h : i = 0
  · subst h
    simp only [Nat.add_zero, hk, if_true, decide_true, Bool.and_true]
    cases bt x k <;> decide +kernel
  · rw [decide_eq_false h, Bool.and_false]
    cases bt x k
    · exact (b_0 i).symm
    · rw [nB_true, ro_one_bt, decide_eq_false h]
def ro_long (x : Int32) : Nat → Int32
  | 0 => -1
  | k + 1 => if bt x k = true then nI k else ro_long x k

set_option maxHeartbeats 4000000 in
set_option maxRecDepth 100000 in
theorem cm_Ln_reach (l : Launch) (D : va_G) (q : Nat → ClassId) (h0 h1 n M i : Nat) (hi : i ≤ n) (hn : n ≤ 84) (hM : M ≤ 24) : kz_Mi (S := Unit) l ky_Ln_reach kb_Ln_reach 2 (some .int) 1 D q [.ref h0, .int (nI i)] [(h0, .inr (0, [.ref h1, .int (nI n), .int (nI M)]))] (fun r _ => r = nI (min M (n - i))) (fun _ => [(h0, .inr (0, [.ref h1, .int (nI n), .int (nI M)]))]) := by
  intro sz
  refine kz_go (by decide +kernel) (Nat.le_of_ble_eq_true rfl) ?_
  intro p e s m below meth c ls args A Q H locs hQ hA X U hl
  have hx := X.1
  have hb := X.2.1
  have hl : lv_has ls 2 [(0, .ref h0), (1, .int (nI i))] := hl
  refine lv_aload_n hx hb kd_Ln_reach_0 rfl (lv_at hl 0 rfl) ?_
  refine kg_Ln_17 X U 0 rfl rfl kd_Ln_reach_1 ?_
  refine lv_aload_n hx hb kd_Ln_reach_4 rfl (lv_at hl 0 rfl) ?_
  refine kg_Ln_13 X U 0 rfl rfl kd_Ln_reach_5 ?_
  refine lv_iload_n hx hb kd_Ln_reach_8 rfl (lv_at hl 1 rfl) ?_
  refine kz_isub X (by omega) kd_Ln_reach_9 ?_
  refine kz_min X hl.1 (by decide) (by decide) (by decide) (by decide) tb_357 tb_237 tb_12 tb_238 (by omega) (by omega) kd_Ln_reach_10 ?_
  exact kz_ei hQ hA X U (()) rfl (rfl) kd_Ln_reach_13

set_option maxHeartbeats 4000000 in
set_option maxRecDepth 100000 in
theorem cm_Dm_has (l : Launch) (D : va_G) (q : Nat → ClassId) (x : Int32) (k : Nat) (hk : k < 32) : kz_Mi (S := Unit) l ky_Dm_has kb_Dm_has 2 (some .boolean) 0 D q [.int x, .int (nI k)] [] (fun r _ => r = nB (bt x k)) (fun _ => []) := by
  intro sz
  refine kz_go (by decide +kernel) (Nat.le_of_ble_eq_true rfl) ?_
  intro p e s m below meth c ls args A Q H locs hQ hA X U hl
  have hx := X.1
  have hb := X.2.1
  have hl : lv_has ls 2 [(0, .int x), (1, .int (nI k))] := hl
  refine lv_iload_n hx hb kd_Dm_has_0 rfl (lv_at hl 0 rfl) ?_
  refine lv_iload_n hx hb kd_Dm_has_1 rfl (lv_at hl 1 rfl) ?_
  refine lv_ishr hx hb kd_Dm_has_2 ?_
  refine kz_ic X 1 kd_Dm_has_3 (by decide) ?_
  refine lv_iand hx hb kd_Dm_has_4 ?_
  refine kz_top (y := nB (bt x k)) (has_v x hk) ?_
  refine kz_ifeqB X kd_Dm_has_5 rfl (fun h5 => ?_) (fun h5 => ?_)
  · refine kz_ic X 0 kd_Dm_has_12 (by decide) ?_
    refine kz_top (y := nB false) rfl ?_
    exact kz_ez hQ hA X U (()) rfl (by rw [h5]) kd_Dm_has_13
  · refine kz_ic X 1 kd_Dm_has_8 (by decide) ?_
    refine lv_goto hx hb kd_Dm_has_9 rfl ?_
    refine kz_top (y := nB true) rfl ?_
    exact kz_ez hQ hA X U (()) rfl (by rw [h5]) kd_Dm_has_13

set_option maxHeartbeats 4000000 in
set_option maxRecDepth 100000 in
theorem cm_Dm_lengthsUpTo (l : Launch) (D : va_G) (q : Nat → ClassId) (k : Nat)  : kz_Mi (S := Unit) l ky_Dm_lengthsUpTo kb_Dm_lengthsUpTo 1 (some .int) 0 D q [.int (nI k)] [] (fun r _ => r = ro_mask k) (fun _ => []) := by
  intro sz
  refine kz_go (by decide +kernel) (Nat.le_of_ble_eq_true rfl) ?_
  intro p e s m below meth c ls args A Q H locs hQ hA X U hl
  have hx := X.1
  have hb := X.2.1
  have hl : lv_has ls 1 [(0, .int (nI k))] := hl
  refine kz_ic X 1 kd_Dm_lengthsUpTo_0 (by decide) ?_
  refine lv_iload_n hx hb kd_Dm_lengthsUpTo_1 rfl (lv_at hl 0 rfl) ?_
  refine kz_ic X 1 kd_Dm_lengthsUpTo_2 (by decide) ?_
  refine kz_iadd X kd_Dm_lengthsUpTo_3 ?_
  refine kz_top (y := nI (k + 1)) rfl ?_
  refine lv_ishl hx hb kd_Dm_lengthsUpTo_4 ?_
  refine kz_ic X 1 kd_Dm_lengthsUpTo_5 (by decide) ?_
  refine lv_isub hx hb kd_Dm_lengthsUpTo_6 ?_
  exact kz_ei hQ hA X U (()) rfl (rfl) kd_Dm_lengthsUpTo_7

set_option maxHeartbeats 4000000 in
set_option maxRecDepth 100000 in
theorem cm_Mc_putEmpty (l : Launch) (D : va_G) (q : Nat → ClassId) (h0 h1 n M a1 : Nat) (f : Nat → Int32) (hn : n ≤ 84) (hM : M ≤ 24) : kz_Mv (S := Unit) l ky_Mc_putEmpty kb_Mc_putEmpty 3 0 D q [.ref h0, .ref a1] [(h0, .inr (0, [.ref h1, .int (nI n), .int (nI M)])), (a1, .inl (q 0, 85, .inl f))] (fun _ => True) (fun _ => [(h0, .inr (0, [.ref h1, .int (nI n), .int (nI M)])), (a1, .inl (q 0, 85, .inl (kz_fl (fun _ => 1) f (n + 1))))]) := by
  intro sz
  refine kz_go (by decide +kernel) (Nat.le_of_ble_eq_true rfl) ?_
  intro p e s m below meth c ls args A Q H locs hQ hA X U hl
  have hx := X.1
  have hb := X.2.1
  have hl : lv_has ls 3 [(0, .ref h0), (1, .ref a1)] := hl
  refine kz_ic X 0 kd_Mc_putEmpty_0 (by decide) ?_
  refine lv_istore_n hx hb kd_Mc_putEmpty_1 rfl hl (by decide) rfl (fun ls hl => ?_)
  have hl : lv_has ls 3 [(2, .int (nI 0)), (0, .ref h0), (1, .ref a1)] := hl
  have loop2 : ∀ (fuel : Nat) (i : Nat) (ls : Array Slot) (H : Heap) (locs : List Loc), n + 1 - i < fuel → (i ≤ n + 1) → lv_has ls 3 [(2, .int (nI i)), (0, .ref h0), (1, .ref a1)] → kz_U D q s A [(h0, .inr (0, [.ref h1, .int (nI n), .int (nI M)])), (a1, .inl (q 0, 85, .inl (kz_fl (fun _ => 1) f i)))] H locs → W p l e (kz_rm 0) s m args below meth c H locs 0 0 Q (F0 m 2 ls []) := by
    intro fuel
    induction fuel with
    | zero => intro i ls H locs hme; exact absurd hme (Nat.not_lt_zero _)
    | succ fuel ih2 =>
      intro i ls H locs hme hi hl U
      refine lv_iload_n hx hb kd_Mc_putEmpty_2 rfl (lv_at hl 0 rfl) ?_
      refine lv_aload_n hx hb kd_Mc_putEmpty_3 rfl (lv_at hl 1 rfl) ?_
      refine kg_Mc_65 X U 0 rfl rfl kd_Mc_putEmpty_4 ?_
      refine kz_icgt X (by omega) (by omega) kd_Mc_putEmpty_7 rfl (fun h7 => ?_) (fun h7 => ?_)
      · exact kz_ev hQ hA X U (()) (by rw [show i = n + 1 by omega]) (trivial) kd_Mc_putEmpty_20
      · refine lv_aload_n hx hb kd_Mc_putEmpty_10 rfl (lv_at hl 2 rfl) ?_
        refine lv_iload_n hx hb kd_Mc_putEmpty_11 rfl (lv_at hl 0 rfl) ?_
        refine kz_ic X 1 kd_Mc_putEmpty_12 (by decide) ?_
        refine kz_iast (k := i) X U 1 rfl (by omega) (by omega) kd_Mc_putEmpty_13 (fun H locs U => ?_)
        have U : kz_U D q s A [(h0, .inr (0, [.ref h1, .int (nI n), .int (nI M)])), (a1, .inl (q 0, 85, .inl (upd (kz_fl (fun _ => 1) f i) i (nI 1))))] H locs := U
        refine lv_iinc (k := 0) (v := nI (i + 1)) hx hb kd_Mc_putEmpty_14 hl rfl (nI_add i 1) (by decide) rfl (fun ls hl => ?_)
        have hl : lv_has ls 3 [(2, .int (nI (i + 1))), (0, .ref h0), (1, .ref a1)] := hl
        refine lv_goto hx hb kd_Mc_putEmpty_17 rfl ?_
        have U : kz_U D q s A [(h0, .inr (0, [.ref h1, .int (nI n), .int (nI M)])), (a1, .inl (q 0, 85, .inl (kz_fl (fun _ => 1) f (i + 1))))] H locs := by rw [← kz_fl_s (F := fun _ => 1) (v := nI 1) (rfl)]; exact U
        exact ih2 (i + 1) _ _ _ (by omega) (by omega) (lv_sub hl [0, 1, 2] rfl) U
  have U : kz_U D q s A [(h0, .inr (0, [.ref h1, .int (nI n), .int (nI M)])), (a1, .inl (q 0, 85, .inl (kz_fl (fun _ => 1) f 0)))] H locs := by rw [kz_fl_0]; exact U
  exact loop2 _ 0 _ _ _ (Nat.lt_succ_self _) (by omega) (lv_sub hl [0, 1, 2] rfl) U

set_option maxHeartbeats 4000000 in
set_option maxRecDepth 100000 in
theorem cm_Mc_unite (l : Launch) (D : va_G) (q : Nat → ClassId) (h0 h1 n M a1 a2 : Nat) (f g : Nat → Int32) (hn : n ≤ 84) (hM : M ≤ 24) : kz_Mv (S := Unit) l ky_Mc_unite kb_Mc_unite 4 0 D q [.ref h0, .ref a1, .ref a2] [(h0, .inr (0, [.ref h1, .int (nI n), .int (nI M)])), (a1, .inl (q 0, 85, .inl f)), (a2, .inl (q 0, 85, .inl g))] (fun _ => True) (fun _ => [(h0, .inr (0, [.ref h1, .int (nI n), .int (nI M)])), (a1, .inl (q 0, 85, .inl (kz_fl (fun j => f j ||| g j) f (n + 1)))), (a2, .inl (q 0, 85, .inl g))]) := by
  intro sz
  refine kz_go (by decide +kernel) (Nat.le_of_ble_eq_true rfl) ?_
  intro p e s m below meth c ls args A Q H locs hQ hA X U hl
  have hx := X.1
  have hb := X.2.1
  have hl : lv_has ls 4 [(0, .ref h0), (1, .ref a1), (2, .ref a2)] := hl
  refine kz_ic X 0 kd_Mc_unite_0 (by decide) ?_
  refine lv_istore_n hx hb kd_Mc_unite_1 rfl hl (by decide) rfl (fun ls hl => ?_)
  have hl : lv_has ls 4 [(3, .int (nI 0)), (0, .ref h0), (1, .ref a1), (2, .ref a2)] := hl
  have loop2 : ∀ (fuel : Nat) (i : Nat) (ls : Array Slot) (H : Heap) (locs : List Loc), n + 1 - i < fuel → (i ≤ n + 1) → lv_has ls 4 [(3, .int (nI i)), (0, .ref h0), (1, .ref a1), (2, .ref a2)] → kz_U D q s A [(h0, .inr (0, [.ref h1, .int (nI n), .int (nI M)])), (a1, .inl (q 0, 85, .inl (kz_fl (fun j => f j ||| g j) f i))), (a2, .inl (q 0, 85, .inl g))] H locs → W p l e (kz_rm 0) s m args below meth c H locs 0 0 Q (F0 m 2 ls []) := by
    intro fuel
    induction fuel with
    | zero => intro i ls H locs hme; exact absurd hme (Nat.not_lt_zero _)
    | succ fuel ih2 =>
      intro i ls H locs hme hi hl U
      refine lv_iload_n hx hb kd_Mc_unite_2 rfl (lv_at hl 0 rfl) ?_
      refine lv_aload_n hx hb kd_Mc_unite_3 rfl (lv_at hl 1 rfl) ?_
      refine kg_Mc_65 X U 0 rfl rfl kd_Mc_unite_4 ?_
      refine kz_icgt X (by omega) (by omega) kd_Mc_unite_7 rfl (fun h7 => ?_) (fun h7 => ?_)
      · exact kz_ev hQ hA X U (()) (by rw [show i = n + 1 by omega]) (trivial) kd_Mc_unite_25
      · refine lv_aload_n hx hb kd_Mc_unite_10 rfl (lv_at hl 2 rfl) ?_
        refine lv_iload_n hx hb kd_Mc_unite_11 rfl (lv_at hl 0 rfl) ?_
        refine lv_dup2_11 hx hb kd_Mc_unite_12 rfl rfl ?_
        refine kz_iald (k := i) X U 1 rfl (by omega) (by omega) kd_Mc_unite_13 ?_
        refine lv_aload_n hx hb kd_Mc_unite_14 rfl (lv_at hl 3 rfl) ?_
        refine lv_iload_n hx hb kd_Mc_unite_15 rfl (lv_at hl 0 rfl) ?_
        refine kz_iald (k := i) X U 2 rfl (by omega) (by omega) kd_Mc_unite_16 ?_
        refine lv_ior hx hb kd_Mc_unite_17 ?_
        refine kz_iast (k := i) X U 1 rfl (by omega) (by omega) kd_Mc_unite_18 (fun H locs U => ?_)
        have U : kz_U D q s A [(h0, .inr (0, [.ref h1, .int (nI n), .int (nI M)])), (a1, .inl (q 0, 85, .inl (upd (kz_fl (fun j => f j ||| g j) f i) i (((kz_fl (fun j => f j ||| g j) f i) i) ||| (g i))))), (a2, .inl (q 0, 85, .inl g))] H locs := U
        refine lv_iinc (k := 0) (v := nI (i + 1)) hx hb kd_Mc_unite_19 hl rfl (nI_add i 1) (by decide) rfl (fun ls hl => ?_)
        have hl : lv_has ls 4 [(3, .int (nI (i + 1))), (0, .ref h0), (1, .ref a1), (2, .ref a2)] := hl
        refine lv_goto hx hb kd_Mc_unite_22 rfl ?_
        have U : kz_U D q s A [(h0, .inr (0, [.ref h1, .int (nI n), .int (nI M)])), (a1, .inl (q 0, 85, .inl (kz_fl (fun j => f j ||| g j) f (i + 1)))), (a2, .inl (q 0, 85, .inl g))] H locs := by rw [← kz_fl_s (F := fun j => f j ||| g j) (v := ((kz_fl (fun j => f j ||| g j) f i) i) ||| (g i)) (by rw [kz_fl_at])]; exact U
        exact ih2 (i + 1) _ _ _ (by omega) (by omega) (lv_sub hl [0, 1, 2, 3] rfl) U
  have U : kz_U D q s A [(h0, .inr (0, [.ref h1, .int (nI n), .int (nI M)])), (a1, .inl (q 0, 85, .inl (kz_fl (fun j => f j ||| g j) f 0))), (a2, .inl (q 0, 85, .inl g))] H locs := by rw [kz_fl_0]; exact U
  exact loop2 _ 0 _ _ _ (Nat.lt_succ_self _) (by omega) (lv_sub hl [0, 1, 2, 3] rfl) U

set_option maxHeartbeats 4000000 in
set_option maxRecDepth 100000 in
theorem cm_Mc_intersect (l : Launch) (D : va_G) (q : Nat → ClassId) (h0 h1 n M a1 a2 : Nat) (f g : Nat → Int32) (hn : n ≤ 84) (hM : M ≤ 24) : kz_Mv (S := Unit) l ky_Mc_intersect kb_Mc_intersect 4 0 D q [.ref h0, .ref a1, .ref a2] [(h0, .inr (0, [.ref h1, .int (nI n), .int (nI M)])), (a1, .inl (q 0, 85, .inl f)), (a2, .inl (q 0, 85, .inl g))] (fun _ => True) (fun _ => [(h0, .inr (0, [.ref h1, .int (nI n), .int (nI M)])), (a1, .inl (q 0, 85, .inl (kz_fl (fun j => f j &&& g j) f (n + 1)))), (a2, .inl (q 0, 85, .inl g))]) := by
  intro sz
  refine kz_go (by decide +kernel) (Nat.le_of_ble_eq_true rfl) ?_
  intro p e s m below meth c ls args A Q H locs hQ hA X U hl
  have hx := X.1
  have hb := X.2.1
  have hl : lv_has ls 4 [(0, .ref h0), (1, .ref a1), (2, .ref a2)] := hl
  refine kz_ic X 0 kd_Mc_intersect_0 (by decide) ?_
  refine lv_istore_n hx hb kd_Mc_intersect_1 rfl hl (by decide) rfl (fun ls hl => ?_)
  have hl : lv_has ls 4 [(3, .int (nI 0)), (0, .ref h0), (1, .ref a1), (2, .ref a2)] := hl
  have loop2 : ∀ (fuel : Nat) (i : Nat) (ls : Array Slot) (H : Heap) (locs : List Loc), n + 1 - i < fuel → (i ≤ n + 1) → lv_has ls 4 [(3, .int (nI i)), (0, .ref h0), (1, .ref a1), (2, .ref a2)] → kz_U D q s A [(h0, .inr (0, [.ref h1, .int (nI n), .int (nI M)])), (a1, .inl (q 0, 85, .inl (kz_fl (fun j => f j &&& g j) f i))), (a2, .inl (q 0, 85, .inl g))] H locs → W p l e (kz_rm 0) s m args below meth c H locs 0 0 Q (F0 m 2 ls []) := by
    intro fuel
    induction fuel with
    | zero => intro i ls H locs hme; exact absurd hme (Nat.not_lt_zero _)
    | succ fuel ih2 =>
      intro i ls H locs hme hi hl U
      refine lv_iload_n hx hb kd_Mc_intersect_2 rfl (lv_at hl 0 rfl) ?_
      refine lv_aload_n hx hb kd_Mc_intersect_3 rfl (lv_at hl 1 rfl) ?_
      refine kg_Mc_65 X U 0 rfl rfl kd_Mc_intersect_4 ?_
      refine kz_icgt X (by omega) (by omega) kd_Mc_intersect_7 rfl (fun h7 => ?_) (fun h7 => ?_)
      · exact kz_ev hQ hA X U (()) (by rw [show i = n + 1 by omega]) (trivial) kd_Mc_intersect_25
      · refine lv_aload_n hx hb kd_Mc_intersect_10 rfl (lv_at hl 2 rfl) ?_
        refine lv_iload_n hx hb kd_Mc_intersect_11 rfl (lv_at hl 0 rfl) ?_
        refine lv_dup2_11 hx hb kd_Mc_intersect_12 rfl rfl ?_
        refine kz_iald (k := i) X U 1 rfl (by omega) (by omega) kd_Mc_intersect_13 ?_
        refine lv_aload_n hx hb kd_Mc_intersect_14 rfl (lv_at hl 3 rfl) ?_
        refine lv_iload_n hx hb kd_Mc_intersect_15 rfl (lv_at hl 0 rfl) ?_
        refine kz_iald (k := i) X U 2 rfl (by omega) (by omega) kd_Mc_intersect_16 ?_
        refine lv_iand hx hb kd_Mc_intersect_17 ?_
        refine kz_iast (k := i) X U 1 rfl (by omega) (by omega) kd_Mc_intersect_18 (fun H locs U => ?_)
        have U : kz_U D q s A [(h0, .inr (0, [.ref h1, .int (nI n), .int (nI M)])), (a1, .inl (q 0, 85, .inl (upd (kz_fl (fun j => f j &&& g j) f i) i (((kz_fl (fun j => f j &&& g j) f i) i) &&& (g i))))), (a2, .inl (q 0, 85, .inl g))] H locs := U
        refine lv_iinc (k := 0) (v := nI (i + 1)) hx hb kd_Mc_intersect_19 hl rfl (nI_add i 1) (by decide) rfl (fun ls hl => ?_)
        have hl : lv_has ls 4 [(3, .int (nI (i + 1))), (0, .ref h0), (1, .ref a1), (2, .ref a2)] := hl
        refine lv_goto hx hb kd_Mc_intersect_22 rfl ?_
        have U : kz_U D q s A [(h0, .inr (0, [.ref h1, .int (nI n), .int (nI M)])), (a1, .inl (q 0, 85, .inl (kz_fl (fun j => f j &&& g j) f (i + 1)))), (a2, .inl (q 0, 85, .inl g))] H locs := by rw [← kz_fl_s (F := fun j => f j &&& g j) (v := ((kz_fl (fun j => f j &&& g j) f i) i) &&& (g i)) (by rw [kz_fl_at])]; exact U
        exact ih2 (i + 1) _ _ _ (by omega) (by omega) (lv_sub hl [0, 1, 2, 3] rfl) U
  have U : kz_U D q s A [(h0, .inr (0, [.ref h1, .int (nI n), .int (nI M)])), (a1, .inl (q 0, 85, .inl (kz_fl (fun j => f j &&& g j) f 0))), (a2, .inl (q 0, 85, .inl g))] H locs := by rw [kz_fl_0]; exact U
  exact loop2 _ 0 _ _ _ (Nat.lt_succ_self _) (by omega) (lv_sub hl [0, 1, 2, 3] rfl) U

set_option maxHeartbeats 4000000 in
set_option maxRecDepth 100000 in
theorem cm_Mc_addEmpty (l : Launch) (D : va_G) (q : Nat → ClassId) (h0 h1 n M a1 : Nat) (f : Nat → Int32) (hn : n ≤ 84) (hM : M ≤ 24) : kz_Mv (S := Unit) l ky_Mc_addEmpty kb_Mc_addEmpty 3 0 D q [.ref h0, .ref a1] [(h0, .inr (0, [.ref h1, .int (nI n), .int (nI M)])), (a1, .inl (q 0, 85, .inl f))] (fun _ => True) (fun _ => [(h0, .inr (0, [.ref h1, .int (nI n), .int (nI M)])), (a1, .inl (q 0, 85, .inl (kz_fl (fun j => f j ||| 1) f (n + 1))))]) := by
  intro sz
  refine kz_go (by decide +kernel) (Nat.le_of_ble_eq_true rfl) ?_
  intro p e s m below meth c ls args A Q H locs hQ hA X U hl
  have hx := X.1
  have hb := X.2.1
  have hl : lv_has ls 3 [(0, .ref h0), (1, .ref a1)] := hl
  refine kz_ic X 0 kd_Mc_addEmpty_0 (by decide) ?_
  refine lv_istore_n hx hb kd_Mc_addEmpty_1 rfl hl (by decide) rfl (fun ls hl => ?_)
  have hl : lv_has ls 3 [(2, .int (nI 0)), (0, .ref h0), (1, .ref a1)] := hl
  have loop2 : ∀ (fuel : Nat) (i : Nat) (ls : Array Slot) (H : Heap) (locs : List Loc), n + 1 - i < fuel → (i ≤ n + 1) → lv_has ls 3 [(2, .int (nI i)), (0, .ref h0), (1, .ref a1)] → kz_U D q s A [(h0, .inr (0, [.ref h1, .int (nI n), .int (nI M)])), (a1, .inl (q 0, 85, .inl (kz_fl (fun j => f j ||| 1) f i)))] H locs → W p l e (kz_rm 0) s m args below meth c H locs 0 0 Q (F0 m 2 ls []) := by
    intro fuel
    induction fuel with
    | zero => intro i ls H locs hme; exact absurd hme (Nat.not_lt_zero _)
    | succ fuel ih2 =>
      intro i ls H locs hme hi hl U
      refine lv_iload_n hx hb kd_Mc_addEmpty_2 rfl (lv_at hl 0 rfl) ?_
      refine lv_aload_n hx hb kd_Mc_addEmpty_3 rfl (lv_at hl 1 rfl) ?_
      refine kg_Mc_65 X U 0 rfl rfl kd_Mc_addEmpty_4 ?_
      refine kz_icgt X (by omega) (by omega) kd_Mc_addEmpty_7 rfl (fun h7 => ?_) (fun h7 => ?_)
      · exact kz_ev hQ hA X U (()) (by rw [show i = n + 1 by omega]) (trivial) kd_Mc_addEmpty_23
      · refine lv_aload_n hx hb kd_Mc_addEmpty_10 rfl (lv_at hl 2 rfl) ?_
        refine lv_iload_n hx hb kd_Mc_addEmpty_11 rfl (lv_at hl 0 rfl) ?_
        refine lv_dup2_11 hx hb kd_Mc_addEmpty_12 rfl rfl ?_
        refine kz_iald (k := i) X U 1 rfl (by omega) (by omega) kd_Mc_addEmpty_13 ?_
        refine kz_ic X 1 kd_Mc_addEmpty_14 (by decide) ?_
        refine lv_ior hx hb kd_Mc_addEmpty_15 ?_
        refine kz_iast (k := i) X U 1 rfl (by omega) (by omega) kd_Mc_addEmpty_16 (fun H locs U => ?_)
        have U : kz_U D q s A [(h0, .inr (0, [.ref h1, .int (nI n), .int (nI M)])), (a1, .inl (q 0, 85, .inl (upd (kz_fl (fun j => f j ||| 1) f i) i (((kz_fl (fun j => f j ||| 1) f i) i) ||| (nI 1)))))] H locs := U
        refine lv_iinc (k := 0) (v := nI (i + 1)) hx hb kd_Mc_addEmpty_17 hl rfl (nI_add i 1) (by decide) rfl (fun ls hl => ?_)
        have hl : lv_has ls 3 [(2, .int (nI (i + 1))), (0, .ref h0), (1, .ref a1)] := hl
        refine lv_goto hx hb kd_Mc_addEmpty_20 rfl ?_
        have U : kz_U D q s A [(h0, .inr (0, [.ref h1, .int (nI n), .int (nI M)])), (a1, .inl (q 0, 85, .inl (kz_fl (fun j => f j ||| 1) f (i + 1))))] H locs := by rw [← kz_fl_s (F := fun j => f j ||| 1) (v := ((kz_fl (fun j => f j ||| 1) f i) i) ||| (nI 1)) (by rw [kz_fl_at]; rfl)]; exact U
        exact ih2 (i + 1) _ _ _ (by omega) (by omega) (lv_sub hl [0, 1, 2] rfl) U
  have U : kz_U D q s A [(h0, .inr (0, [.ref h1, .int (nI n), .int (nI M)])), (a1, .inl (q 0, 85, .inl (kz_fl (fun j => f j ||| 1) f 0)))] H locs := by rw [kz_fl_0]; exact U
  exact loop2 _ 0 _ _ _ (Nat.lt_succ_self _) (by omega) (lv_sub hl [0, 1, 2] rfl) U
