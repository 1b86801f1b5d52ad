def kz_po (p0 p1 : Nat) : Nat → Option Nat := fun i => if i = 0 then some p0 else if i = 1 then some p1 else none
section KA
variable {p : Program} {l : Launch} {e : Env} {R : Room} {s : State} {m : MethodId} {args : Array Value} {below : List Frame} {meth : Method} {c : Code} {H : Heap} {locs : List Loc} {cells slots : Nat} {Q : State → Prop}
variable {cc : ByteArray} {pc nL : Nat} {ls : Array Slot} {rest : List Value} {own : String} {ret : Option FieldType} {D : va_G} {q : Nat → ClassId} {A : Nat → Prop} {ws wc : va_W}
theorem kz_aaldP (X : kz_C p m c cc nL own s args meth ret) (U : kz_U D q s A ws H locs) (q0 : Nat) {a k n v : Nat} {f : Nat → Option Nat} (ha : ws[q0]? = some (a, .inl (q 3, n, .inr (.inr (.inr (.inr f)))))) (hk : k < n) (hn : n < 2 ^ 31) (hf : f k = some v) (hdg : decode cc pc = .ok (.aaload, 1)) (kk : W p l e R s m args below meth c H locs cells slots Q (F0 m (pc + 1) ls (.ref v :: rest))) : W p l e R s m args below meth c H locs cells slots Q (F0 m pc ls (.int (nI k) :: .ref a :: rest)) := by
  have hc : (nI k).toNatClampNeg = k := nI_clamp (by omega)
  refine va_aldq X.1 X.2.1 U.1.1 U.2.1 q0 3 ha rfl (vp_in_nI hk hn) hdg ?_
  rw [hc, hf]
  exact kk
end KA
theorem kz_cpyN {f g : Nat → Nat} {n : Nat} : va_cpy (fun j => nI (f j)) (fun j => nI (g j)) 0 0 n = fun j => nI (va_cpy f g 0 0 n j) := by
  funext j
  unfold va_cpy
  split <;> rfl
/-- a program in its three arrays -/
def kz_pg (P : List (Nat × Nat × Nat)) (fk fl fh : Nat → Int32) : Prop := P.length ≤ 81 ∧ ∀ j (h : j < P.length), fk j = nI (P[j]).1 ∧ fl j = nI (P[j]).2.1 ∧ fh j = nI (P[j]).2.2 + (-1)
theorem kz_pg_add {P : List (Nat × Nat × Nat)} {fk fl fh : Nat → Int32} (h : kz_pg P fk fl fh) (hl : P.length < 81) (k a b : Nat) : kz_pg (P ++ [(k, a, b)]) (upd fk P.length (nI k)) (upd fl P.length (nI a)) (upd fh P.length (nI b + (-1))) := by
  refine ⟨by simp; omega, ?_⟩
  intro j hj
  have hj2 : j < P.length + 1 := by simpa using hj
  by_cases e : j = P.length
  · subst e
    simp [pk_us]
  · have hlt : j < P.length := by omega
    rw [pk_un e, pk_un e, pk_un e, List.getElem_append_left hlt]
    exact h.2 j hlt
theorem kz_pg_nil (fk fl fh : Nat → Int32) : kz_pg [] fk fl fh := ⟨by simp, fun j h => absurd h (Nat.not_lt_zero _)⟩

set_option maxHeartbeats 4000000 in
set_option maxRecDepth 100000 in
theorem cm_Pg_add (l : Launch) (D : va_G) (q : Nat → ClassId) (hg ak al ah : Nat) (sz k a : Nat) (hv : Int32) (fk fl fh : Nat → Int32) (hsz : sz < 81) : kz_Mv (S := Unit) l ky_Pg_add kb_Pg_add 4 0 D q [.ref hg, .int (nI k), .int (nI a), .int hv] [(hg, .inr (3, [.ref ak, .ref al, .ref ah, .int (nI sz)])), (ak, .inl (q 0, 81, .inl fk)), (al, .inl (q 0, 81, .inl fl)), (ah, .inl (q 0, 81, .inl fh))] (fun _ => True) (fun _ => [(hg, .inr (3, [.ref ak, .ref al, .ref ah, .int (nI (sz + 1))])), (ak, .inl (q 0, 81, .inl (upd fk sz (nI k)))), (al, .inl (q 0, 81, .inl (upd fl sz (nI a)))), (ah, .inl (q 0, 81, .inl (upd fh sz hv)))]) := by
  intro sz_
  refine kz_go (by decide +kernel) (Nat.le_of_ble_eq_true rfl) ?_
  intro p e s m below meth c ls args A Q H locs hQ hA X U hl
  have hx := X.1
  have hb := X.2.1
  have hl : lv_has ls 4 [(0, .ref hg), (1, .int (nI k)), (2, .int (nI a)), (3, .int hv)] := hl
  refine lv_aload_n hx hb kd_Pg_add_0 rfl (lv_at hl 0 rfl) ?_
  refine kg_Pg_21 X U 0 rfl rfl kd_Pg_add_1 ?_
  refine kz_bp X 81 kd_Pg_add_4 (by decide) ?_
  refine kz_icge X (by omega) (by omega) kd_Pg_add_6 rfl (fun h6 => absurd h6 (by omega)) (fun h6 => ?_)
  refine lv_aload_n hx hb kd_Pg_add_9 rfl (lv_at hl 0 rfl) ?_
  refine kg_Pg_9 X U 0 rfl rfl kd_Pg_add_10 ?_
  refine lv_aload_n hx hb kd_Pg_add_13 rfl (lv_at hl 0 rfl) ?_
  refine kg_Pg_21 X U 0 rfl rfl kd_Pg_add_14 ?_
  refine lv_iload_n hx hb kd_Pg_add_17 rfl (lv_at hl 1 rfl) ?_
  refine kz_iast (k := sz) X U 1 rfl (by omega) (by omega) kd_Pg_add_18 (fun H locs U => ?_)
  have U : kz_U D q s A [(hg, .inr (3, [.ref ak, .ref al, .ref ah, .int (nI sz)])), (ak, .inl (q 0, 81, .inl (upd fk sz (nI k)))), (al, .inl (q 0, 81, .inl fl)), (ah, .inl (q 0, 81, .inl fh))] H locs := U
  refine lv_aload_n hx hb kd_Pg_add_19 rfl (lv_at hl 0 rfl) ?_
  refine kg_Pg_15 X U 0 rfl rfl kd_Pg_add_20 ?_
  refine lv_aload_n hx hb kd_Pg_add_23 rfl (lv_at hl 0 rfl) ?_
  refine kg_Pg_21 X U 0 rfl rfl kd_Pg_add_24 ?_
  refine lv_iload_n hx hb kd_Pg_add_27 rfl (lv_at hl 2 rfl) ?_
  refine kz_iast (k := sz) X U 2 rfl (by omega) (by omega) kd_Pg_add_28 (fun H locs U => ?_)
  have U : kz_U D q s A [(hg, .inr (3, [.ref ak, .ref al, .ref ah, .int (nI sz)])), (ak, .inl (q 0, 81, .inl (upd fk sz (nI k)))), (al, .inl (q 0, 81, .inl (upd fl sz (nI a)))), (ah, .inl (q 0, 81, .inl fh))] H locs := U
  refine lv_aload_n hx hb kd_Pg_add_29 rfl (lv_at hl 0 rfl) ?_
  refine kg_Pg_18 X U 0 rfl rfl kd_Pg_add_30 ?_
  refine lv_aload_n hx hb kd_Pg_add_33 rfl (lv_at hl 0 rfl) ?_
  refine kg_Pg_21 X U 0 rfl rfl kd_Pg_add_34 ?_
  refine lv_iload_n hx hb kd_Pg_add_37 rfl (lv_at hl 3 rfl) ?_
  refine kz_iast (k := sz) X U 3 rfl (by omega) (by omega) kd_Pg_add_38 (fun H locs U => ?_)
  have U : kz_U D q s A [(hg, .inr (3, [.ref ak, .ref al, .ref ah, .int (nI sz)])), (ak, .inl (q 0, 81, .inl (upd fk sz (nI k)))), (al, .inl (q 0, 81, .inl (upd fl sz (nI a)))), (ah, .inl (q 0, 81, .inl (upd fh sz hv)))] H locs := U
  refine lv_aload_n hx hb kd_Pg_add_39 rfl (lv_at hl 0 rfl) ?_
  refine lv_dup hx hb kd_Pg_add_40 rfl ?_
  refine kg_Pg_21 X U 0 rfl rfl kd_Pg_add_41 ?_
  refine kz_ic X 1 kd_Pg_add_44 (by decide) ?_
  refine kz_iadd X kd_Pg_add_45 ?_
  refine kz_top (y := nI (sz + 1)) rfl ?_
  refine kp_Pg_21 X U 0 rfl (Nat.le_of_ble_eq_true rfl) kd_Pg_add_46 (fun H locs U => ?_)
  have U : kz_U D q s A [(hg, .inr (3, [.ref ak, .ref al, .ref ah, .int (nI (sz + 1))])), (ak, .inl (q 0, 81, .inl (upd fk sz (nI k)))), (al, .inl (q 0, 81, .inl (upd fl sz (nI a)))), (ah, .inl (q 0, 81, .inl (upd fh sz hv)))] H locs := U
  exact kz_ev hQ hA X U (()) rfl (trivial) kd_Pg_add_49

set_option maxHeartbeats 4000000 in
set_option maxRecDepth 100000 in
theorem cm_Dm_isPattern (l : Launch) (D : va_G) (q : Nat → ClassId) (x : Int32)  : kz_Mi (S := Unit) l ky_Dm_isPattern kb_Dm_isPattern 1 (some .boolean) 0 D q [.int x] [] (fun r _ => r = nB (decide (x = 0 ∨ x = 1))) (fun _ => []) := by
  intro sz_
  refine kz_go (by decide +kernel) (Nat.le_of_ble_eq_true rfl) ?_
  intro p e s m below meth c ls args A Q H locs hQ hA X U hl
  have hx := X.1
  have hb := X.2.1
  have hl : lv_has ls 1 [(0, .int x)] := hl
  refine lv_iload_n hx hb kd_Dm_isPattern_0 rfl (lv_at hl 0 rfl) ?_
  refine lv_if_eq hx hb kd_Dm_isPattern_1 rfl (fun h1 => ?_) (fun h1 => ?_)
  · refine kz_ic X 1 kd_Dm_isPattern_9 (by decide) ?_
    refine lv_goto hx hb kd_Dm_isPattern_10 rfl ?_
    refine kz_top (y := nB true) rfl ?_
    exact kz_ez hQ hA X U (()) rfl (by first | rw [decide_eq_true (show x = 0 ∨ x = 1 from Or.inl h1)] | rw [decide_eq_true (show x = 0 ∨ x = 1 from Or.inr h6)] | rw [decide_eq_false (show ¬ (x = 0 ∨ x = 1) from fun z => z.elim h1 h6)]) kd_Dm_isPattern_14
  · refine lv_iload_n hx hb kd_Dm_isPattern_4 rfl (lv_at hl 0 rfl) ?_
    refine kz_ic X 1 kd_Dm_isPattern_5 (by decide) ?_
    refine lv_icmp_ne hx hb kd_Dm_isPattern_6 rfl (fun h6 => ?_) (fun h6 => ?_)
    · refine kz_ic X 0 kd_Dm_isPattern_13 (by decide) ?_
      refine kz_top (y := nB false) rfl ?_
      exact kz_ez hQ hA X U (()) rfl (by first | rw [decide_eq_true (show x = 0 ∨ x = 1 from Or.inl h1)] | rw [decide_eq_true (show x = 0 ∨ x = 1 from Or.inr h6)] | rw [decide_eq_false (show ¬ (x = 0 ∨ x = 1) from fun z => z.elim h1 h6)]) kd_Dm_isPattern_14
    · refine kz_ic X 1 kd_Dm_isPattern_9 (by decide) ?_
      refine lv_goto hx hb kd_Dm_isPattern_10 rfl ?_
      refine kz_top (y := nB true) rfl ?_
      exact kz_ez hQ hA X U (()) rfl (by first | rw [decide_eq_true (show x = 0 ∨ x = 1 from Or.inl h1)] | rw [decide_eq_true (show x = 0 ∨ x = 1 from Or.inr h6)] | rw [decide_eq_false (show ¬ (x = 0 ∨ x = 1) from fun z => z.elim h1 h6)]) kd_Dm_isPattern_14

def wd_up : Nat → Nat
  | 0 => 1
  | n + 1 => 3 * wd_up n + 1
theorem wd_up_le : ∀ n, n ≤ 4 → wd_up n ≤ 121 := by decide

set_option maxHeartbeats 4000000 in
set_option maxRecDepth 100000 in
theorem cm_Dm_wordsUpTo (l : Launch) (D : va_G) (q : Nat → ClassId) (n : Nat) (hn : n ≤ 4) : kz_Mi (S := Unit) l ky_Dm_wordsUpTo kb_Dm_wordsUpTo 3 (some .int) 0 D q [.int (nI n)] [] (fun r _ => r = nI (wd_up n)) (fun _ => []) := by
  intro sz_
  refine kz_go (by decide +kernel) (Nat.le_of_ble_eq_true rfl) ?_
  intro p e s m below meth c ls args A Q H locs hQ hA X U hl
  have hx := X.1
  have hb := X.2.1
  have hl : lv_has ls 3 [(0, .int (nI n))] := hl
  refine kz_ic X 1 kd_Dm_wordsUpTo_0 (by decide) ?_
  refine lv_istore_n hx hb kd_Dm_wordsUpTo_1 rfl hl (by decide) rfl (fun ls hl => ?_)
  have hl : lv_has ls 3 [(1, .int (nI 1)), (0, .int (nI n))] := hl
  refine kz_ic X 1 kd_Dm_wordsUpTo_2 (by decide) ?_
  refine lv_istore_n hx hb kd_Dm_wordsUpTo_3 rfl hl (by decide) rfl (fun ls hl => ?_)
  have hl : lv_has ls 3 [(2, .int (nI 1)), (1, .int (nI 1)), (0, .int (nI n))] := hl
  have loop4 : ∀ (fuel : Nat) (k : Nat) (ls : Array Slot) (H : Heap) (locs : List Loc), n + 1 - k < fuel → (k ≤ n) → lv_has ls 3 [(2, .int (nI (k + 1))), (1, .int (nI (wd_up k))), (0, .int (nI n))] → kz_U D q s A [] H locs → W p l e (kz_rm 0) s m args below meth c H locs 0 0 Q (F0 m 4 ls []) := by
    intro fuel
    induction fuel with
    | zero => intro k ls H locs hme; exact absurd hme (Nat.not_lt_zero _)
    | succ fuel ih4 =>
      intro k ls H locs hme hk hl U
      refine lv_iload_n hx hb kd_Dm_wordsUpTo_4 rfl (lv_at hl 0 rfl) ?_
      refine lv_iload_n hx hb kd_Dm_wordsUpTo_5 rfl (lv_at hl 2 rfl) ?_
      refine kz_icgt X (by omega) (by omega) kd_Dm_wordsUpTo_6 rfl (fun h6 => ?_) (fun h6 => ?_)
      · refine lv_iload_n hx hb kd_Dm_wordsUpTo_21 rfl (lv_at hl 1 rfl) ?_
        exact kz_ei hQ hA X U (()) rfl (by rw [show k = n by omega]) kd_Dm_wordsUpTo_22
      · refine kz_ic X 3 kd_Dm_wordsUpTo_9 (by decide) ?_
        refine lv_iload_n hx hb kd_Dm_wordsUpTo_10 rfl (lv_at hl 1 rfl) ?_
        refine kz_imul X kd_Dm_wordsUpTo_11 ?_
        refine kz_top (y := nI (3 * (wd_up k))) rfl ?_
        refine kz_ic X 1 kd_Dm_wordsUpTo_12 (by decide) ?_
        refine kz_iadd X kd_Dm_wordsUpTo_13 ?_
        refine kz_top (y := nI (3 * (wd_up k) + 1)) rfl ?_
        refine lv_istore_n hx hb kd_Dm_wordsUpTo_14 rfl hl (by decide) rfl (fun ls hl => ?_)
        have hl : lv_has ls 3 [(1, .int (nI (3 * (wd_up k) + 1))), (2, .int (nI (k + 1))), (0, .int (nI n))] := hl
        refine lv_iinc (k := 1) (v := nI (k + 1 + 1)) hx hb kd_Dm_wordsUpTo_15 hl rfl (nI_add (k + 1) 1) (by decide) rfl (fun ls hl => ?_)
        have hl : lv_has ls 3 [(2, .int (nI (k + 1 + 1))), (1, .int (nI (3 * (wd_up k) + 1))), (0, .int (nI n))] := hl
        refine lv_goto hx hb kd_Dm_wordsUpTo_18 rfl ?_
        exact ih4 (k + 1) _ _ _ (by omega) (by omega) (lv_sub hl [0, 1, 2] rfl) U
  exact loop4 _ 0 _ _ _ (Nat.lt_succ_self _) (by omega) (lv_sub hl [0, 1, 2] rfl) U

theorem vp_nar_c {x : Nat} (h : x < 65536) : vp_nar .char (nI x) = nI x := by
  unfold vp_nar
  rw [(pk_charN h).1]

set_option maxHeartbeats 4000000 in
set_option maxRecDepth 100000 in
theorem cm_Dm_type (l : Launch) (D : va_G) (q : Nat → ClassId) (hd bb tl wl pp rd hm lt nb nl ch : Nat) (bu : Nat → Nat) (hch : ch < 65536) (hnb : nb ≤ 40) : kz_Mi (S := Nat × (Nat → Nat)) l ky_Dm_type kb_Dm_type 2 (some .boolean) 0 D q [.ref hd, .int (nI ch)] [(hd, .inr (5, [.ref bb, .int (nI nb), .ref tl, .ref wl, .ref pp, .ref rd, .ref hm, .ref lt, .int (nI nl)])), (bb, .inl (q 1, 40, .inl (fun j => nI (bu j))))] (fun r u => r = nB (decide (32 ≤ ch ∧ ch ≤ 126 ∧ nb < 40)) ∧ u = if 32 ≤ ch ∧ ch ≤ 126 ∧ nb < 40 then (nb + 1, va_up bu nb ch) else (nb, bu)) (fun u => [(hd, .inr (5, [.ref bb, .int (nI u.1), .ref tl, .ref wl, .ref pp, .ref rd, .ref hm, .ref lt, .int (nI nl)])), (bb, .inl (q 1, 40, .inl (fun j => nI (u.2 j))))]) := by
  intro sz_
  refine kz_go (by decide +kernel) (Nat.le_of_ble_eq_true rfl) ?_
  intro p e s m below meth c ls args A Q H locs hQ hA X U hl
  have hx := X.1
  have hb := X.2.1
  have hl : lv_has ls 2 [(0, .ref hd), (1, .int (nI ch))] := hl
  refine lv_iload_n hx hb kd_Dm_type_0 rfl (lv_at hl 1 rfl) ?_
  refine kz_bp X 32 kd_Dm_type_1 (by decide) ?_
  refine kz_iclt X (by omega) (by omega) kd_Dm_type_3 rfl (fun h3 => ?_) (fun h3 => ?_)
  · refine kz_ic X 0 kd_Dm_type_21 (by decide) ?_
    refine kz_top (y := nB false) rfl ?_
    exact kz_ez hQ hA X U ((nb, bu)) rfl (by rw [if_neg (by omega), decide_eq_false (by omega)]; exact ⟨rfl, rfl⟩) kd_Dm_type_22
  · refine lv_iload_n hx hb kd_Dm_type_6 rfl (lv_at hl 1 rfl) ?_
    refine kz_bp X 126 kd_Dm_type_7 (by decide) ?_
    refine kz_icgt X (by omega) (by omega) kd_Dm_type_9 rfl (fun h9 => ?_) (fun h9 => ?_)
    · refine kz_ic X 0 kd_Dm_type_21 (by decide) ?_
      refine kz_top (y := nB false) rfl ?_
      exact kz_ez hQ hA X U ((nb, bu)) rfl (by rw [if_neg (by omega), decide_eq_false (by omega)]; exact ⟨rfl, rfl⟩) kd_Dm_type_22
    · refine lv_aload_n hx hb kd_Dm_type_12 rfl (lv_at hl 0 rfl) ?_
      refine kg_Dm_13 X U 0 rfl rfl kd_Dm_type_13 ?_
      refine kz_bp X 40 kd_Dm_type_16 (by decide) ?_
      refine kz_iclt X (by omega) (by omega) kd_Dm_type_18 rfl (fun h18 => ?_) (fun h18 => ?_)
      · refine lv_aload_n hx hb kd_Dm_type_23 rfl (lv_at hl 0 rfl) ?_
        refine kg_Dm_9 X U 0 rfl rfl kd_Dm_type_24 ?_
        refine lv_aload_n hx hb kd_Dm_type_27 rfl (lv_at hl 0 rfl) ?_
        refine kg_Dm_13 X U 0 rfl rfl kd_Dm_type_28 ?_
        refine lv_iload_n hx hb kd_Dm_type_31 rfl (lv_at hl 1 rfl) ?_
        refine kz_cast (k := nb) X U 1 rfl (by omega) (by omega) (vp_nar_c (by omega)) kd_Dm_type_32 (fun H locs U => ?_)
        rw [kz_updN] at U
        have U : kz_U D q s A [(hd, .inr (5, [.ref bb, .int (nI nb), .ref tl, .ref wl, .ref pp, .ref rd, .ref hm, .ref lt, .int (nI nl)])), (bb, .inl (q 1, 40, .inl (fun j => nI ((va_up bu nb ch) j))))] H locs := U
        refine lv_aload_n hx hb kd_Dm_type_33 rfl (lv_at hl 0 rfl) ?_
        refine lv_dup hx hb kd_Dm_type_34 rfl ?_
        refine kg_Dm_13 X U 0 rfl rfl kd_Dm_type_35 ?_
        refine kz_ic X 1 kd_Dm_type_38 (by decide) ?_
        refine kz_iadd X kd_Dm_type_39 ?_
        refine kz_top (y := nI (nb + 1)) rfl ?_
        refine kp_Dm_13 X U 0 rfl (Nat.le_of_ble_eq_true rfl) kd_Dm_type_40 (fun H locs U => ?_)
        have U : kz_U D q s A [(hd, .inr (5, [.ref bb, .int (nI (nb + 1)), .ref tl, .ref wl, .ref pp, .ref rd, .ref hm, .ref lt, .int (nI nl)])), (bb, .inl (q 1, 40, .inl (fun j => nI ((va_up bu nb ch) j))))] H locs := U
        refine kz_ic X 1 kd_Dm_type_43 (by decide) ?_
        refine kz_top (y := nB true) rfl ?_
        exact kz_ez hQ hA X U ((nb + 1, va_up bu nb ch)) rfl (by rw [if_pos ⟨h3, h9, h18⟩, decide_eq_true ⟨h3, h9, h18⟩]; exact ⟨rfl, rfl⟩) kd_Dm_type_44
      · refine kz_ic X 0 kd_Dm_type_21 (by decide) ?_
        refine kz_top (y := nB false) rfl ?_
        exact kz_ez hQ hA X U ((nb, bu)) rfl (by rw [if_neg (by omega), decide_eq_false (by omega)]; exact ⟨rfl, rfl⟩) kd_Dm_type_22

set_option maxHeartbeats 4000000 in
set_option maxRecDepth 100000 in
theorem cm_Dm_text (l : Launch) (D : va_G) (q : Nat → ClassId) (hd bb tl tc wl pp rd hm lt nb nl n p0 p1 g0 pr0 wd0 g1 pr1 wd1 : Nat) (bu tx : Nat → Nat) (pk0 wk0 pk1 wk1 : Bool) (hbu : ∀ j, bu j < 65536) (hnb : nb ≤ 24) : kz_Mi (S := Unit) l ky_Dm_text kb_Dm_text 1 (some .int) 1 D q [.ref hd] [(hd, .inr (5, [.ref bb, .int (nI nb), .ref tl, .ref wl, .ref pp, .ref rd, .ref hm, .ref lt, .int (nI nl)])), (bb, .inl (q 1, 40, .inl (fun j => nI (bu j)))), (tl, .inr (0, [.ref tc, .int (nI n), .int (nI 24)])), (tc, .inl (q 1, 24, .inl (fun j => nI (tx j)))), (pp, .inl (q 3, 2, .inr (.inr (.inr (.inr (kz_po p0 p1)))))), (p0, .inr (2, [.ref g0, .ref pr0, .int (nB pk0), .ref wd0, .int (nB wk0)])), (p1, .inr (2, [.ref g1, .ref pr1, .int (nB pk1), .ref wd1, .int (nB wk1)]))] (fun r _ => r = nI nb) (fun _ => [(hd, .inr (5, [.ref bb, .int (nI 0), .ref tl, .ref wl, .ref pp, .ref rd, .ref hm, .ref lt, .int (nI nl)])), (bb, .inl (q 1, 40, .inl (fun j => nI (bu j)))), (tl, .inr (0, [.ref tc, .int (nI nb), .int (nI 24)])), (tc, .inl (q 1, 24, .inl (fun j => nI ((va_cpy bu tx 0 0 nb) j)))), (pp, .inl (q 3, 2, .inr (.inr (.inr (.inr (kz_po p0 p1)))))), (p0, .inr (2, [.ref g0, .ref pr0, .int (nB false), .ref wd0, .int (nB wk0)])), (p1, .inr (2, [.ref g1, .ref pr1, .int (nB false), .ref wd1, .int (nB wk1)]))]) := by
  intro sz_
  refine kz_go (by decide +kernel) (Nat.le_of_ble_eq_true rfl) ?_
  intro p e s m below meth c ls args A Q H locs hQ hA X U hl
  have hx := X.1
  have hb := X.2.1
  have hl : lv_has ls 1 [(0, .ref hd)] := hl
  refine lv_aload_n hx hb kd_Dm_text_0 rfl (lv_at hl 0 rfl) ?_
  refine kg_Dm_13 X U 0 rfl rfl kd_Dm_text_1 ?_
  refine kz_bp X 24 kd_Dm_text_4 (by decide) ?_
  refine kz_icle X (by omega) (by omega) kd_Dm_text_6 rfl (fun h6 => ?_) (fun h6 => absurd h6 (by omega))
  refine lv_aload_n hx hb kd_Dm_text_11 rfl (lv_at hl 0 rfl) ?_
  refine kg_Dm_9 X U 0 rfl rfl kd_Dm_text_12 ?_
  refine kz_ic X 0 kd_Dm_text_15 (by decide) ?_
  refine lv_aload_n hx hb kd_Dm_text_16 rfl (lv_at hl 0 rfl) ?_
  refine kg_Dm_22 X U 0 rfl rfl kd_Dm_text_17 ?_
  refine kg_Dm_91 X U 2 rfl rfl kd_Dm_text_20 ?_
  refine kz_ic X 0 kd_Dm_text_23 (by decide) ?_
  refine lv_aload_n hx hb kd_Dm_text_24 rfl (lv_at hl 0 rfl) ?_
  refine kg_Dm_13 X U 0 rfl rfl kd_Dm_text_25 ?_
  refine kz_copy X U hl.1 (by decide) (by decide) tb_322 tb_241 tb_240 tb_13 1 3 1 rfl rfl rfl rfl (by omega) (by omega) (by omega) (fun i _ => (pk_charN (hbu i)).2) kd_Dm_text_28 (fun H locs U => ?_)
  have U : kz_U D q s A [(hd, .inr (5, [.ref bb, .int (nI nb), .ref tl, .ref wl, .ref pp, .ref rd, .ref hm, .ref lt, .int (nI nl)])), (bb, .inl (q 1, 40, .inl (fun j => nI (bu j)))), (tl, .inr (0, [.ref tc, .int (nI n), .int (nI 24)])), (tc, .inl (q 1, 24, .inl (va_cpy (fun j => nI (bu j)) (fun j => nI (tx j)) 0 0 nb))), (pp, .inl (q 3, 2, .inr (.inr (.inr (.inr (kz_po p0 p1)))))), (p0, .inr (2, [.ref g0, .ref pr0, .int (nB pk0), .ref wd0, .int (nB wk0)])), (p1, .inr (2, [.ref g1, .ref pr1, .int (nB pk1), .ref wd1, .int (nB wk1)]))] H locs := U
  rw [kz_cpyN] at U
  have U : kz_U D q s A [(hd, .inr (5, [.ref bb, .int (nI nb), .ref tl, .ref wl, .ref pp, .ref rd, .ref hm, .ref lt, .int (nI nl)])), (bb, .inl (q 1, 40, .inl (fun j => nI (bu j)))), (tl, .inr (0, [.ref tc, .int (nI n), .int (nI 24)])), (tc, .inl (q 1, 24, .inl (fun j => nI ((va_cpy bu tx 0 0 nb) j)))), (pp, .inl (q 3, 2, .inr (.inr (.inr (.inr (kz_po p0 p1)))))), (p0, .inr (2, [.ref g0, .ref pr0, .int (nB pk0), .ref wd0, .int (nB wk0)])), (p1, .inr (2, [.ref g1, .ref pr1, .int (nB pk1), .ref wd1, .int (nB wk1)]))] H locs := U
  refine lv_aload_n hx hb kd_Dm_text_31 rfl (lv_at hl 0 rfl) ?_
  refine kg_Dm_22 X U 0 rfl rfl kd_Dm_text_32 ?_
  refine lv_aload_n hx hb kd_Dm_text_35 rfl (lv_at hl 0 rfl) ?_
  refine kg_Dm_13 X U 0 rfl rfl kd_Dm_text_36 ?_
  refine kp_Dm_100 X U 2 rfl (Nat.le_of_ble_eq_true rfl) kd_Dm_text_39 (fun H locs U => ?_)
  have U : kz_U D q s A [(hd, .inr (5, [.ref bb, .int (nI nb), .ref tl, .ref wl, .ref pp, .ref rd, .ref hm, .ref lt, .int (nI nl)])), (bb, .inl (q 1, 40, .inl (fun j => nI (bu j)))), (tl, .inr (0, [.ref tc, .int (nI nb), .int (nI 24)])), (tc, .inl (q 1, 24, .inl (fun j => nI ((va_cpy bu tx 0 0 nb) j)))), (pp, .inl (q 3, 2, .inr (.inr (.inr (.inr (kz_po p0 p1)))))), (p0, .inr (2, [.ref g0, .ref pr0, .int (nB pk0), .ref wd0, .int (nB wk0)])), (p1, .inr (2, [.ref g1, .ref pr1, .int (nB pk1), .ref wd1, .int (nB wk1)]))] H locs := U
  refine lv_aload_n hx hb kd_Dm_text_42 rfl (lv_at hl 0 rfl) ?_
  refine kz_ic X 0 kd_Dm_text_43 (by decide) ?_
  refine kp_Dm_13 X U 0 rfl (Nat.le_of_ble_eq_true rfl) kd_Dm_text_44 (fun H locs U => ?_)
  have U : kz_U D q s A [(hd, .inr (5, [.ref bb, .int (nI 0), .ref tl, .ref wl, .ref pp, .ref rd, .ref hm, .ref lt, .int (nI nl)])), (bb, .inl (q 1, 40, .inl (fun j => nI (bu j)))), (tl, .inr (0, [.ref tc, .int (nI nb), .int (nI 24)])), (tc, .inl (q 1, 24, .inl (fun j => nI ((va_cpy bu tx 0 0 nb) j)))), (pp, .inl (q 3, 2, .inr (.inr (.inr (.inr (kz_po p0 p1)))))), (p0, .inr (2, [.ref g0, .ref pr0, .int (nB pk0), .ref wd0, .int (nB wk0)])), (p1, .inr (2, [.ref g1, .ref pr1, .int (nB pk1), .ref wd1, .int (nB wk1)]))] H locs := U
  refine lv_aload_n hx hb kd_Dm_text_47 rfl (lv_at hl 0 rfl) ?_
  refine kg_Dm_40 X U 0 rfl rfl kd_Dm_text_48 ?_
  refine kz_ic X 0 kd_Dm_text_51 (by decide) ?_
  refine kz_aaldP (k := 0) X U 4 rfl (by omega) (by omega) rfl kd_Dm_text_52 ?_
  refine kz_ic X 0 kd_Dm_text_53 (by decide) ?_
  refine kp_Dm_84 (x := false) X U 5 rfl (Nat.le_of_ble_eq_true rfl) kd_Dm_text_54 (fun H locs U => ?_)
  have U : kz_U D q s A [(hd, .inr (5, [.ref bb, .int (nI 0), .ref tl, .ref wl, .ref pp, .ref rd, .ref hm, .ref lt, .int (nI nl)])), (bb, .inl (q 1, 40, .inl (fun j => nI (bu j)))), (tl, .inr (0, [.ref tc, .int (nI nb), .int (nI 24)])), (tc, .inl (q 1, 24, .inl (fun j => nI ((va_cpy bu tx 0 0 nb) j)))), (pp, .inl (q 3, 2, .inr (.inr (.inr (.inr (kz_po p0 p1)))))), (p0, .inr (2, [.ref g0, .ref pr0, .int (nB false), .ref wd0, .int (nB wk0)])), (p1, .inr (2, [.ref g1, .ref pr1, .int (nB pk1), .ref wd1, .int (nB wk1)]))] H locs := U
  refine lv_aload_n hx hb kd_Dm_text_57 rfl (lv_at hl 0 rfl) ?_
  refine kg_Dm_40 X U 0 rfl rfl kd_Dm_text_58 ?_
  refine kz_ic X 1 kd_Dm_text_61 (by decide) ?_
  refine kz_aaldP (k := 1) X U 4 rfl (by omega) (by omega) rfl kd_Dm_text_62 ?_
  refine kz_ic X 0 kd_Dm_text_63 (by decide) ?_
  refine kp_Dm_84 (x := false) X U 6 rfl (Nat.le_of_ble_eq_true rfl) kd_Dm_text_64 (fun H locs U => ?_)
  have U : kz_U D q s A [(hd, .inr (5, [.ref bb, .int (nI 0), .ref tl, .ref wl, .ref pp, .ref rd, .ref hm, .ref lt, .int (nI nl)])), (bb, .inl (q 1, 40, .inl (fun j => nI (bu j)))), (tl, .inr (0, [.ref tc, .int (nI nb), .int (nI 24)])), (tc, .inl (q 1, 24, .inl (fun j => nI ((va_cpy bu tx 0 0 nb) j)))), (pp, .inl (q 3, 2, .inr (.inr (.inr (.inr (kz_po p0 p1)))))), (p0, .inr (2, [.ref g0, .ref pr0, .int (nB false), .ref wd0, .int (nB wk0)])), (p1, .inr (2, [.ref g1, .ref pr1, .int (nB false), .ref wd1, .int (nB wk1)]))] H locs := U
  refine lv_aload_n hx hb kd_Dm_text_67 rfl (lv_at hl 0 rfl) ?_
  refine kg_Dm_22 X U 0 rfl rfl kd_Dm_text_68 ?_
  refine kg_Dm_100 X U 2 rfl rfl kd_Dm_text_71 ?_
  exact kz_ei hQ hA X U (()) rfl (rfl) kd_Dm_text_74

set_option maxHeartbeats 4000000 in
set_option maxRecDepth 100000 in
theorem cm_Dm_text_bad (l : Launch) (D : va_G) (q : Nat → ClassId) (hd bb tl wl pp rd hm lt nb nl : Nat) (hnb : 24 < nb) (hnb2 : nb ≤ 40) : kz_Mi (S := Unit) l ky_Dm_text kb_Dm_text 1 (some .int) 0 D q [.ref hd] [(hd, .inr (5, [.ref bb, .int (nI nb), .ref tl, .ref wl, .ref pp, .ref rd, .ref hm, .ref lt, .int (nI nl)]))] (fun r _ => r = -1) (fun _ => [(hd, .inr (5, [.ref bb, .int (nI nb), .ref tl, .ref wl, .ref pp, .ref rd, .ref hm, .ref lt, .int (nI nl)]))]) := by
  intro sz_
  refine kz_go (by decide +kernel) (Nat.le_of_ble_eq_true rfl) ?_
  intro p e s m below meth c ls args A Q H locs hQ hA X U hl
  have hx := X.1
  have hb := X.2.1
  have hl : lv_has ls 1 [(0, .ref hd)] := hl
  refine lv_aload_n hx hb kd_Dm_text_0 rfl (lv_at hl 0 rfl) ?_
  refine kg_Dm_13 X U 0 rfl rfl kd_Dm_text_1 ?_
  refine kz_bp X 24 kd_Dm_text_4 (by decide) ?_
  refine kz_icle X (by omega) (by omega) kd_Dm_text_6 rfl (fun h6 => absurd h6 (by omega)) (fun h6 => ?_)
  refine lv_iconst (v := (-1)) hx hb kd_Dm_text_9 (by decide) ?_
  exact kz_ei hQ hA X U (()) rfl (rfl) kd_Dm_text_10

set_option maxHeartbeats 4000000 in
set_option maxRecDepth 100000 in
theorem cm_Dm_word (l : Launch) (D : va_G) (q : Nat → ClassId) (hd bb tl wl pp rd hm lt nb nl : Nat) (x : Int32) (le : Nat → Nat) (hnl : nl ≤ 4) : kz_Mi (S := Unit) l ky_Dm_word kb_Dm_word 2 (some .int) 0 D q [.ref hd, .int x] [(hd, .inr (5, [.ref bb, .int (nI nb), .ref tl, .ref wl, .ref pp, .ref rd, .ref hm, .ref lt, .int (nI nl)])), (lt, .inl (q 1, 4, .inl (fun j => nI (le j))))] (fun r _ => r = if 0 ≤ x ∧ x < nI nl then nI (le x.toNatClampNeg) else -1) (fun _ => [(hd, .inr (5, [.ref bb, .int (nI nb), .ref tl, .ref wl, .ref pp, .ref rd, .ref hm, .ref lt, .int (nI nl)])), (lt, .inl (q 1, 4, .inl (fun j => nI (le j))))]) := by
  intro sz_
  refine kz_go (by decide +kernel) (Nat.le_of_ble_eq_true rfl) ?_
  intro p e s m below meth c ls args A Q H locs hQ hA X U hl
  have hx := X.1
  have hb := X.2.1
  have hl : lv_has ls 2 [(0, .ref hd), (1, .int x)] := hl
  refine lv_iload_n hx hb kd_Dm_word_0 rfl (lv_at hl 1 rfl) ?_
  refine lv_if_lt hx hb kd_Dm_word_1 rfl (fun h1 => ?_) (fun h1 => ?_)
  · refine lv_iconst (v := (-1)) hx hb kd_Dm_word_12 (by decide) ?_
    refine lv_goto hx hb kd_Dm_word_13 rfl ?_
    exact kz_ei hQ hA X U (()) rfl (by rw [if_neg (fun z => by first | exact absurd h1 (Int32.not_lt.mpr z.1) | exact h9 z.2)]) kd_Dm_word_22
  · refine lv_iload_n hx hb kd_Dm_word_4 rfl (lv_at hl 1 rfl) ?_
    refine lv_aload_n hx hb kd_Dm_word_5 rfl (lv_at hl 0 rfl) ?_
    refine kg_Dm_61 X U 0 rfl rfl kd_Dm_word_6 ?_
    refine lv_icmp_lt hx hb kd_Dm_word_9 rfl (fun h9 => ?_) (fun h9 => ?_)
    · refine lv_aload_n hx hb kd_Dm_word_16 rfl (lv_at hl 0 rfl) ?_
      refine kg_Dm_58 X U 0 rfl rfl kd_Dm_word_17 ?_
      obtain ⟨j, hj, hxj⟩ : ∃ j : Nat, j < nl ∧ x = nI j := by
        obtain ⟨j, hj, e⟩ := nI_of h1
        refine ⟨j, ?_, e⟩
        rw [e, nI_ltI hj (by omega)] at h9
        exact h9
      have hl : lv_has ls 2 [(0, .ref hd), (1, .int (nI j))] := by rw [← hxj]; exact hl
      refine lv_iload_n hx hb kd_Dm_word_20 rfl (lv_at hl 1 rfl) ?_
      refine kz_cald (k := j) X U 1 rfl (by omega) (by omega) kd_Dm_word_21 ?_
      refine kz_top (y := nI (le j)) rfl ?_
      exact kz_ei hQ hA X U (()) rfl (by rw [hxj]; rw [if_pos ⟨nI_pos' (by omega), by rw [nI_ltI (by omega) (by omega)]; exact hj⟩, nI_clamp (by omega)]) kd_Dm_word_22
    · refine lv_iconst (v := (-1)) hx hb kd_Dm_word_12 (by decide) ?_
      refine lv_goto hx hb kd_Dm_word_13 rfl ?_
      exact kz_ei hQ hA X U (()) rfl (by rw [if_neg (fun z => by first | exact absurd h1 (Int32.not_lt.mpr z.1) | exact h9 z.2)]) kd_Dm_word_22
