/-! the reference's nodes while a pattern is read: kind, two numbers, the three words of its set -/
abbrev md_N : Type := Nat × Nat × Nat × (Nat → Int32)
abbrev md_B : Type := (Nat → Nat) × (Nat → Nat) × (Nat → Nat) × (Nat → Int32)
/-- the nodes NL lie from place 256 on; below it all is as in b -/
def md_T (NL : List md_N) (b : md_B) (kd on tw : Nat → Nat) (se : Nat → Int32) : Prop := NL.length ≤ 128 ∧ (∀ j (h : j < NL.length), kd (256 + j) = (NL[j]).1 ∧ on (256 + j) = (NL[j]).2.1 ∧ tw (256 + j) = (NL[j]).2.2.1 ∧ ∀ w, w < 3 → se (3 * (256 + j) + w) = (NL[j]).2.2.2 w) ∧ (∀ i, i < 256 → kd i = b.1 i ∧ on i = b.2.1 i ∧ tw i = b.2.2.1 i) ∧ ∀ i, i < 768 → se i = b.2.2.2 i
def md_z (se : Nat → Int32) (n i : Nat) : Nat → Int32 := fun j => if 3 * (256 + n) ≤ j ∧ j < 3 * (256 + n) + i then 0 else se j
theorem md_z_0 (se : Nat → Int32) (n : Nat) : md_z se n 0 = se := by
  funext j
  unfold md_z
  rw [if_neg (by omega)]
theorem md_z_s {se : Nat → Int32} {n i : Nat} : upd (md_z se n i) (3 * (256 + n) + i) (nI 0) = md_z se n (i + 1) := by
  funext j
  by_cases e : j = 3 * (256 + n) + i
  · subst e
    rw [pk_us]
    unfold md_z
    rw [if_pos ⟨by omega, by omega⟩]
    rfl
  · rw [pk_un e]
    unfold md_z
    by_cases h : 3 * (256 + n) ≤ j ∧ j < 3 * (256 + n) + i
    · rw [if_pos h, if_pos ⟨h.1, by omega⟩]
    · rw [if_neg h, if_neg (by omega)]
theorem md_T_node {NL : List md_N} {b : md_B} {kd on tw : Nat → Nat} {se : Nat → Int32} (h : md_T NL b kd on tw se) (hl : NL.length < 128) (k x y : Nat) : md_T (NL ++ [(k, x, y, fun _ => 0)]) b (va_up kd (256 + NL.length) k) (va_up on (256 + NL.length) x) (va_up tw (256 + NL.length) y) (md_z se NL.length 3) := by
  obtain ⟨h1, h2, h3, h4⟩ := h
  refine ⟨by simp; omega, ?_, fun i hi => ?_, fun i hi => ?_⟩
  · intro j hj
    have hj2 : j < NL.length + 1 := by simpa using hj
    by_cases e : j = NL.length
    · subst e
      rw [va_up_eq', va_up_eq', va_up_eq']
      simp only [List.getElem_append_right (Nat.le_refl _), Nat.sub_self, List.getElem_cons_zero, true_and]
      intro w hw
      unfold md_z
      rw [if_pos ⟨by omega, by omega⟩]
    · have hlt : j < NL.length := by omega
      have q := h2 j hlt
      rw [List.getElem_append_left hlt, va_up_ne' (by omega), va_up_ne' (by omega), va_up_ne' (by omega)]
      refine ⟨q.1, q.2.1, q.2.2.1, fun w hw => ?_⟩
      unfold md_z
      rw [if_neg (by omega)]
      exact q.2.2.2 w hw
  · rw [va_up_ne' (by omega), va_up_ne' (by omega), va_up_ne' (by omega)]
    exact h3 i hi
  · unfold md_z
    rw [if_neg (by omega)]
    exact h4 i hi
/-- a node's set, its word w made v -/
def md_set (NL : List md_N) (n w : Nat) (v : Int32) : List md_N := NL.set n ((NL.getD n (0, 0, 0, fun _ => 0)).1, (NL.getD n (0, 0, 0, fun _ => 0)).2.1, (NL.getD n (0, 0, 0, fun _ => 0)).2.2.1, upd (NL.getD n (0, 0, 0, fun _ => 0)).2.2.2 w v)
theorem md_set_len (NL : List md_N) (n w : Nat) (v : Int32) : (md_set NL n w v).length = NL.length := List.length_set
theorem md_gd {NL : List md_N} {n : Nat} (h : n < NL.length) : NL.getD n (0, 0, 0, fun _ => 0) = NL[n] := by
  rw [List.getD_eq_getElem?_getD, List.getElem?_eq_getElem h]
  rfl
theorem md_T_set {NL : List md_N} {b : md_B} {kd on tw : Nat → Nat} {se : Nat → Int32} (h : md_T NL b kd on tw se) {n w : Nat} (hn : n < NL.length) (hw : w < 3) (v : Int32) : md_T (md_set NL n w v) b kd on tw (upd se (3 * (256 + n) + w) v) := by
  obtain ⟨h1, h2, h3, h4⟩ := h
  refine ⟨by rw [md_set_len]; exact h1, ?_, h3, fun i hi => ?_⟩
  · intro j hj
    have hj2 : j < NL.length := by rw [md_set_len] at hj; exact hj
    have q := h2 j hj2
    by_cases e : j = n
    · subst e
      have eq : (md_set NL j w v)[j] = ((NL[j]).1, (NL[j]).2.1, (NL[j]).2.2.1, upd (NL[j]).2.2.2 w v) := by
        refine (List.getElem_set_self (l := NL) (i := j) (h := hj)).trans ?_
        rw [md_gd hj2]
      rw [eq]
      refine ⟨q.1, q.2.1, q.2.2.1, fun w' hw' => ?_⟩
      show upd se _ v _ = upd (NL[j]).2.2.2 w v w'
      by_cases e2 : w' = w
      · subst e2; rw [pk_us, pk_us]
      · rw [pk_un (by omega), pk_un e2]; exact q.2.2.2 w' hw'
    · have eq : (md_set NL n w v)[j] = NL[j] := by
        exact List.getElem_set_ne (l := NL) (fun z => e z.symm) hj
      rw [eq]
      refine ⟨q.1, q.2.1, q.2.2.1, fun w' hw' => ?_⟩
      rw [pk_un (by omega)]; exact q.2.2.2 w' hw'
  · rw [pk_un (by omega)]
    exact h4 i hi

set_option maxHeartbeats 4000000 in
set_option maxRecDepth 100000 in
theorem cm_Mo_node (l : Launch) (D : va_G) (q : Nat → ClassId) (ho mb mt mw mc mk m1 m2 ms mu mi mr mn mp mj me mh : Nat) (sz ln wn dp st_ im en : Nat) (lo_ : Int32) (ex ds : Bool) (ct kd on tw : Nat → Nat) (se : Nat → Int32) (NL : List md_N) (b_ : md_B) (k x y : Nat) (hT : md_T NL b_ kd on tw se) (hl128 : NL.length < 128) : kz_Mi (S := (Nat → Nat) × (Nat → Nat) × (Nat → Nat) × (Nat → Int32)) l ky_Mo_node kb_Mo_node 6 (some .int) 0 D q [.ref ho, .int (nI k), .int (nI x), .int (nI y)] [(ho, .inr (6, [.ref mb, .int (nI sz), .ref mt, .int (nI ln), .ref mw, .int (nI wn), .ref mc, .ref mk, .ref m1, .ref m2, .ref ms, .int (nI dp), .ref mu, .ref mi, .ref mr, .ref mn, .ref mp, .int (nI st_), .int lo_, .int (nI im), .int (nB ex), .ref mj, .int (nI en), .ref me, .ref mh, .int (nB ds)])), (mc, .inl (q 0, 3, .inl (fun x_ => nI ((va_up ct 2 NL.length) x_)))), (mk, .inl (q 0, 384, .inl (fun x_ => nI (kd x_)))), (m1, .inl (q 0, 384, .inl (fun x_ => nI (on x_)))), (m2, .inl (q 0, 384, .inl (fun x_ => nI (tw x_)))), (ms, .inl (q 0, 1152, .inl se))] (fun r u => r = nI NL.length ∧ md_T (NL ++ [(k, x, y, fun _ => 0)]) b_ u.1 u.2.1 u.2.2.1 u.2.2.2) (fun u => [(ho, .inr (6, [.ref mb, .int (nI sz), .ref mt, .int (nI ln), .ref mw, .int (nI wn), .ref mc, .ref mk, .ref m1, .ref m2, .ref ms, .int (nI dp), .ref mu, .ref mi, .ref mr, .ref mn, .ref mp, .int (nI st_), .int lo_, .int (nI im), .int (nB ex), .ref mj, .int (nI en), .ref me, .ref mh, .int (nB ds)])), (mc, .inl (q 0, 3, .inl (fun x_ => nI ((va_up ct 2 (NL.length + 1)) x_)))), (mk, .inl (q 0, 384, .inl (fun x_ => nI (u.1 x_)))), (m1, .inl (q 0, 384, .inl (fun x_ => nI (u.2.1 x_)))), (m2, .inl (q 0, 384, .inl (fun x_ => nI (u.2.2.1 x_)))), (ms, .inl (q 0, 1152, .inl u.2.2.2))]) := by
  intro sz_
  refine kz_go (by decide +kernel) (Nat.le_of_ble_eq_true rfl) ?_
  intro p e s m below meth c ls args A Q H locs hQ hA X U hl
  have hx := X.1
  have hb := X.2.1
  have hl : lv_has ls 6 [(0, .ref ho), (1, .int (nI k)), (2, .int (nI x)), (3, .int (nI y))] := hl
  refine lv_aload_n hx hb kd_Mo_node_0 rfl (lv_at hl 0 rfl) ?_
  refine kg_Mo_19 X U 0 rfl rfl kd_Mo_node_1 ?_
  refine kz_ic X 2 kd_Mo_node_4 (by decide) ?_
  refine kz_iald (k := 2) X U 1 rfl (by omega) (by omega) kd_Mo_node_5 ?_
  refine kz_top (y := nI ((va_up ct 2 NL.length) 2)) rfl ?_
  refine kz_top (y := nI NL.length) (by rw [va_up_eq']) ?_
  refine lv_istore hx hb kd_Mo_node_6 hl (by decide) rfl (fun ls hl => ?_)
  have hl : lv_has ls 6 [(4, .int (nI NL.length)), (0, .ref ho), (1, .int (nI k)), (2, .int (nI x)), (3, .int (nI y))] := hl
  refine lv_aload_n hx hb kd_Mo_node_8 rfl (lv_at hl 1 rfl) ?_
  refine kg_Mo_22 X U 0 rfl rfl kd_Mo_node_9 ?_
  refine kz_sp X 256 kd_Mo_node_12 (by decide) ?_
  refine lv_iload hx hb kd_Mo_node_15 (lv_at hl 0 rfl) ?_
  refine kz_iadd X kd_Mo_node_17 ?_
  refine kz_top (y := nI (256 + NL.length)) rfl ?_
  refine lv_iload_n hx hb kd_Mo_node_18 rfl (lv_at hl 2 rfl) ?_
  refine kz_iast (k := 256 + NL.length) X U 2 rfl (by omega) (by omega) kd_Mo_node_19 (fun H locs U => ?_)
  rw [kz_updN] at U
  have U : kz_U D q s A [(ho, .inr (6, [.ref mb, .int (nI sz), .ref mt, .int (nI ln), .ref mw, .int (nI wn), .ref mc, .ref mk, .ref m1, .ref m2, .ref ms, .int (nI dp), .ref mu, .ref mi, .ref mr, .ref mn, .ref mp, .int (nI st_), .int lo_, .int (nI im), .int (nB ex), .ref mj, .int (nI en), .ref me, .ref mh, .int (nB ds)])), (mc, .inl (q 0, 3, .inl (fun x_ => nI ((va_up ct 2 NL.length) x_)))), (mk, .inl (q 0, 384, .inl (fun x_ => nI ((va_up kd (256 + NL.length) k) x_)))), (m1, .inl (q 0, 384, .inl (fun x_ => nI (on x_)))), (m2, .inl (q 0, 384, .inl (fun x_ => nI (tw x_)))), (ms, .inl (q 0, 1152, .inl se))] H locs := U
  refine lv_aload_n hx hb kd_Mo_node_20 rfl (lv_at hl 1 rfl) ?_
  refine kg_Mo_25 X U 0 rfl rfl kd_Mo_node_21 ?_
  refine kz_sp X 256 kd_Mo_node_24 (by decide) ?_
  refine lv_iload hx hb kd_Mo_node_27 (lv_at hl 0 rfl) ?_
  refine kz_iadd X kd_Mo_node_29 ?_
  refine kz_top (y := nI (256 + NL.length)) rfl ?_
  refine lv_iload_n hx hb kd_Mo_node_30 rfl (lv_at hl 3 rfl) ?_
  refine kz_iast (k := 256 + NL.length) X U 3 rfl (by omega) (by omega) kd_Mo_node_31 (fun H locs U => ?_)
  rw [kz_updN] at U
  have U : kz_U D q s A [(ho, .inr (6, [.ref mb, .int (nI sz), .ref mt, .int (nI ln), .ref mw, .int (nI wn), .ref mc, .ref mk, .ref m1, .ref m2, .ref ms, .int (nI dp), .ref mu, .ref mi, .ref mr, .ref mn, .ref mp, .int (nI st_), .int lo_, .int (nI im), .int (nB ex), .ref mj, .int (nI en), .ref me, .ref mh, .int (nB ds)])), (mc, .inl (q 0, 3, .inl (fun x_ => nI ((va_up ct 2 NL.length) x_)))), (mk, .inl (q 0, 384, .inl (fun x_ => nI ((va_up kd (256 + NL.length) k) x_)))), (m1, .inl (q 0, 384, .inl (fun x_ => nI ((va_up on (256 + NL.length) x) x_)))), (m2, .inl (q 0, 384, .inl (fun x_ => nI (tw x_)))), (ms, .inl (q 0, 1152, .inl se))] H locs := U
  refine lv_aload_n hx hb kd_Mo_node_32 rfl (lv_at hl 1 rfl) ?_
  refine kg_Mo_28 X U 0 rfl rfl kd_Mo_node_33 ?_
  refine kz_sp X 256 kd_Mo_node_36 (by decide) ?_
  refine lv_iload hx hb kd_Mo_node_39 (lv_at hl 0 rfl) ?_
  refine kz_iadd X kd_Mo_node_41 ?_
  refine kz_top (y := nI (256 + NL.length)) rfl ?_
  refine lv_iload_n hx hb kd_Mo_node_42 rfl (lv_at hl 4 rfl) ?_
  refine kz_iast (k := 256 + NL.length) X U 4 rfl (by omega) (by omega) kd_Mo_node_43 (fun H locs U => ?_)
  rw [kz_updN] at U
  have U : kz_U D q s A [(ho, .inr (6, [.ref mb, .int (nI sz), .ref mt, .int (nI ln), .ref mw, .int (nI wn), .ref mc, .ref mk, .ref m1, .ref m2, .ref ms, .int (nI dp), .ref mu, .ref mi, .ref mr, .ref mn, .ref mp, .int (nI st_), .int lo_, .int (nI im), .int (nB ex), .ref mj, .int (nI en), .ref me, .ref mh, .int (nB ds)])), (mc, .inl (q 0, 3, .inl (fun x_ => nI ((va_up ct 2 NL.length) x_)))), (mk, .inl (q 0, 384, .inl (fun x_ => nI ((va_up kd (256 + NL.length) k) x_)))), (m1, .inl (q 0, 384, .inl (fun x_ => nI ((va_up on (256 + NL.length) x) x_)))), (m2, .inl (q 0, 384, .inl (fun x_ => nI ((va_up tw (256 + NL.length) y) x_)))), (ms, .inl (q 0, 1152, .inl se))] H locs := U
  refine kz_ic X 0 kd_Mo_node_44 (by decide) ?_
  refine lv_istore hx hb kd_Mo_node_45 hl (by decide) rfl (fun ls hl => ?_)
  have hl : lv_has ls 6 [(5, .int (nI 0)), (4, .int (nI NL.length)), (0, .ref ho), (1, .int (nI k)), (2, .int (nI x)), (3, .int (nI y))] := hl
  have loop47 : ∀ (fuel : Nat) (i : Nat) (ls : Array Slot) (H : Heap) (locs : List Loc), 4 - i < fuel → (i ≤ 3) → lv_has ls 6 [(5, .int (nI i)), (4, .int (nI NL.length)), (0, .ref ho)] → kz_U D q s A [(ho, .inr (6, [.ref mb, .int (nI sz), .ref mt, .int (nI ln), .ref mw, .int (nI wn), .ref mc, .ref mk, .ref m1, .ref m2, .ref ms, .int (nI dp), .ref mu, .ref mi, .ref mr, .ref mn, .ref mp, .int (nI st_), .int lo_, .int (nI im), .int (nB ex), .ref mj, .int (nI en), .ref me, .ref mh, .int (nB ds)])), (mc, .inl (q 0, 3, .inl (fun x_ => nI ((va_up ct 2 NL.length) x_)))), (mk, .inl (q 0, 384, .inl (fun x_ => nI ((va_up kd (256 + NL.length) k) x_)))), (m1, .inl (q 0, 384, .inl (fun x_ => nI ((va_up on (256 + NL.length) x) x_)))), (m2, .inl (q 0, 384, .inl (fun x_ => nI ((va_up tw (256 + NL.length) y) x_)))), (ms, .inl (q 0, 1152, .inl (md_z se NL.length i)))] H locs → W p l e (kz_rm 0) s m args below meth c H locs 0 0 Q (F0 m 47 ls []) := by
    intro fuel
    induction fuel with
    | zero => intro i ls H locs hme; exact absurd hme (Nat.not_lt_zero _)
    | succ fuel ih47 =>
      intro i ls H locs hme hi hl U
      refine lv_iload hx hb kd_Mo_node_47 (lv_at hl 0 rfl) ?_
      refine kz_ic X 3 kd_Mo_node_49 (by decide) ?_
      refine kz_icge X (by omega) (by omega) kd_Mo_node_50 rfl (fun h50 => ?_) (fun h50 => ?_)
      · refine lv_aload_n hx hb kd_Mo_node_76 rfl (lv_at hl 2 rfl) ?_
        refine kg_Mo_19 X U 0 rfl rfl kd_Mo_node_77 ?_
        refine kz_ic X 2 kd_Mo_node_80 (by decide) ?_
        refine lv_dup2_11 hx hb kd_Mo_node_81 rfl rfl ?_
        refine kz_iald (k := 2) X U 1 rfl (by omega) (by omega) kd_Mo_node_82 ?_
        refine kz_top (y := nI ((va_up ct 2 NL.length) 2)) rfl ?_
        refine kz_top (y := nI NL.length) (by rw [va_up_eq']) ?_
        refine kz_ic X 1 kd_Mo_node_83 (by decide) ?_
        refine kz_iadd X kd_Mo_node_84 ?_
        refine kz_top (y := nI (NL.length + 1)) rfl ?_
        refine kz_iast (k := 2) X U 1 rfl (by omega) (by omega) kd_Mo_node_85 (fun H locs U => ?_)
        rw [kz_updN] at U
        have U : kz_U D q s A [(ho, .inr (6, [.ref mb, .int (nI sz), .ref mt, .int (nI ln), .ref mw, .int (nI wn), .ref mc, .ref mk, .ref m1, .ref m2, .ref ms, .int (nI dp), .ref mu, .ref mi, .ref mr, .ref mn, .ref mp, .int (nI st_), .int lo_, .int (nI im), .int (nB ex), .ref mj, .int (nI en), .ref me, .ref mh, .int (nB ds)])), (mc, .inl (q 0, 3, .inl (fun x_ => nI ((va_up (va_up ct 2 NL.length) 2 (NL.length + 1)) x_)))), (mk, .inl (q 0, 384, .inl (fun x_ => nI ((va_up kd (256 + NL.length) k) x_)))), (m1, .inl (q 0, 384, .inl (fun x_ => nI ((va_up on (256 + NL.length) x) x_)))), (m2, .inl (q 0, 384, .inl (fun x_ => nI ((va_up tw (256 + NL.length) y) x_)))), (ms, .inl (q 0, 1152, .inl (md_z se NL.length i)))] H locs := U
        rw [bx_uu] at U
        have U : kz_U D q s A [(ho, .inr (6, [.ref mb, .int (nI sz), .ref mt, .int (nI ln), .ref mw, .int (nI wn), .ref mc, .ref mk, .ref m1, .ref m2, .ref ms, .int (nI dp), .ref mu, .ref mi, .ref mr, .ref mn, .ref mp, .int (nI st_), .int lo_, .int (nI im), .int (nB ex), .ref mj, .int (nI en), .ref me, .ref mh, .int (nB ds)])), (mc, .inl (q 0, 3, .inl (fun x_ => nI ((va_up ct 2 (NL.length + 1)) x_)))), (mk, .inl (q 0, 384, .inl (fun x_ => nI ((va_up kd (256 + NL.length) k) x_)))), (m1, .inl (q 0, 384, .inl (fun x_ => nI ((va_up on (256 + NL.length) x) x_)))), (m2, .inl (q 0, 384, .inl (fun x_ => nI ((va_up tw (256 + NL.length) y) x_)))), (ms, .inl (q 0, 1152, .inl (md_z se NL.length i)))] H locs := U
        refine lv_iload hx hb kd_Mo_node_86 (lv_at hl 1 rfl) ?_
        exact kz_ei hQ hA X U ((va_up kd (256 + NL.length) k, va_up on (256 + NL.length) x, va_up tw (256 + NL.length) y, md_z se NL.length 3)) (by rw [show i = 3 by omega]) (⟨rfl, md_T_node hT hl128 k x y⟩) kd_Mo_node_88
      · refine lv_aload_n hx hb kd_Mo_node_53 rfl (lv_at hl 2 rfl) ?_
        refine kg_Mo_31 X U 0 rfl rfl kd_Mo_node_54 ?_
        refine kz_ic X 3 kd_Mo_node_57 (by decide) ?_
        refine kz_sp X 256 kd_Mo_node_58 (by decide) ?_
        refine lv_iload hx hb kd_Mo_node_61 (lv_at hl 1 rfl) ?_
        refine kz_iadd X kd_Mo_node_63 ?_
        refine kz_top (y := nI (256 + NL.length)) rfl ?_
        refine kz_imul X kd_Mo_node_64 ?_
        refine kz_top (y := nI (3 * (256 + NL.length))) rfl ?_
        refine lv_iload hx hb kd_Mo_node_65 (lv_at hl 0 rfl) ?_
        refine kz_iadd X kd_Mo_node_67 ?_
        refine kz_top (y := nI (3 * (256 + NL.length) + i)) rfl ?_
        refine kz_ic X 0 kd_Mo_node_68 (by decide) ?_
        refine kz_iast (k := 3 * (256 + NL.length) + i) X U 5 rfl (by omega) (by omega) kd_Mo_node_69 (fun H locs U => ?_)
        have U : kz_U D q s A [(ho, .inr (6, [.ref mb, .int (nI sz), .ref mt, .int (nI ln), .ref mw, .int (nI wn), .ref mc, .ref mk, .ref m1, .ref m2, .ref ms, .int (nI dp), .ref mu, .ref mi, .ref mr, .ref mn, .ref mp, .int (nI st_), .int lo_, .int (nI im), .int (nB ex), .ref mj, .int (nI en), .ref me, .ref mh, .int (nB ds)])), (mc, .inl (q 0, 3, .inl (fun x_ => nI ((va_up ct 2 NL.length) x_)))), (mk, .inl (q 0, 384, .inl (fun x_ => nI ((va_up kd (256 + NL.length) k) x_)))), (m1, .inl (q 0, 384, .inl (fun x_ => nI ((va_up on (256 + NL.length) x) x_)))), (m2, .inl (q 0, 384, .inl (fun x_ => nI ((va_up tw (256 + NL.length) y) x_)))), (ms, .inl (q 0, 1152, .inl (upd (md_z se NL.length i) (3 * (256 + NL.length) + i) (nI 0))))] H locs := U
        refine lv_iinc (k := 0) (v := nI (i + 1)) hx hb kd_Mo_node_70 hl rfl (nI_add i 1) (by decide) rfl (fun ls hl => ?_)
        have hl : lv_has ls 6 [(5, .int (nI (i + 1))), (4, .int (nI NL.length)), (0, .ref ho)] := hl
        refine lv_goto hx hb kd_Mo_node_73 rfl ?_
        have U : kz_U D q s A [(ho, .inr (6, [.ref mb, .int (nI sz), .ref mt, .int (nI ln), .ref mw, .int (nI wn), .ref mc, .ref mk, .ref m1, .ref m2, .ref ms, .int (nI dp), .ref mu, .ref mi, .ref mr, .ref mn, .ref mp, .int (nI st_), .int lo_, .int (nI im), .int (nB ex), .ref mj, .int (nI en), .ref me, .ref mh, .int (nB ds)])), (mc, .inl (q 0, 3, .inl (fun x_ => nI ((va_up ct 2 NL.length) x_)))), (mk, .inl (q 0, 384, .inl (fun x_ => nI ((va_up kd (256 + NL.length) k) x_)))), (m1, .inl (q 0, 384, .inl (fun x_ => nI ((va_up on (256 + NL.length) x) x_)))), (m2, .inl (q 0, 384, .inl (fun x_ => nI ((va_up tw (256 + NL.length) y) x_)))), (ms, .inl (q 0, 1152, .inl (md_z se NL.length (i + 1))))] H locs := by rw [← md_z_s]; exact U
        exact ih47 (i + 1) _ _ _ (by omega) (by omega) (lv_sub hl [0, 1, 2] rfl) U
  have U : kz_U D q s A [(ho, .inr (6, [.ref mb, .int (nI sz), .ref mt, .int (nI ln), .ref mw, .int (nI wn), .ref mc, .ref mk, .ref m1, .ref m2, .ref ms, .int (nI dp), .ref mu, .ref mi, .ref mr, .ref mn, .ref mp, .int (nI st_), .int lo_, .int (nI im), .int (nB ex), .ref mj, .int (nI en), .ref me, .ref mh, .int (nB ds)])), (mc, .inl (q 0, 3, .inl (fun x_ => nI ((va_up ct 2 NL.length) x_)))), (mk, .inl (q 0, 384, .inl (fun x_ => nI ((va_up kd (256 + NL.length) k) x_)))), (m1, .inl (q 0, 384, .inl (fun x_ => nI ((va_up on (256 + NL.length) x) x_)))), (m2, .inl (q 0, 384, .inl (fun x_ => nI ((va_up tw (256 + NL.length) y) x_)))), (ms, .inl (q 0, 1152, .inl (md_z se NL.length 0)))] H locs := by rw [md_z_0]; exact U
  exact loop47 _ 0 _ _ _ (Nat.lt_succ_self _) (by omega) (lv_sub hl [0, 1, 2] rfl) U

set_option maxHeartbeats 4000000 in
set_option maxRecDepth 100000 in
theorem cm_Mo_include (l : Launch) (D : va_G) (q : Nat → ClassId) (ho mb mt mw mc mk m1 m2 ms mu mi mr mn mp mj me mh : Nat) (sz ln wn dp st_ im en : Nat) (lo_ : Int32) (ex ds : Bool) (ct kd on tw : Nat → Nat) (se : Nat → Int32) (NL : List md_N) (b_ : md_B) (n c_ : Nat) (hT : md_T NL b_ kd on tw se) (hn : n < NL.length) (hc1 : 32 ≤ c_) (hc2 : c_ < 128) : kz_Mv (S := Nat → Int32) l ky_Mo_include kb_Mo_include 4 0 D q [.ref ho, .int (nI n), .int (nI c_)] [(ho, .inr (6, [.ref mb, .int (nI sz), .ref mt, .int (nI ln), .ref mw, .int (nI wn), .ref mc, .ref mk, .ref m1, .ref m2, .ref ms, .int (nI dp), .ref mu, .ref mi, .ref mr, .ref mn, .ref mp, .int (nI st_), .int lo_, .int (nI im), .int (nB ex), .ref mj, .int (nI en), .ref me, .ref mh, .int (nB ds)])), (ms, .inl (q 0, 1152, .inl se))] (fun u => md_T (md_set NL n ((c_ - 32) / 32) ((NL.getD n (0, 0, 0, fun _ => 0)).2.2.2 ((c_ - 32) / 32) ||| (nI 1 <<< (nI ((c_ - 32) % 32) &&& 31)))) b_ kd on tw u) (fun u => [(ho, .inr (6, [.ref mb, .int (nI sz), .ref mt, .int (nI ln), .ref mw, .int (nI wn), .ref mc, .ref mk, .ref m1, .ref m2, .ref ms, .int (nI dp), .ref mu, .ref mi, .ref mr, .ref mn, .ref mp, .int (nI st_), .int lo_, .int (nI im), .int (nB ex), .ref mj, .int (nI en), .ref me, .ref mh, .int (nB ds)])), (ms, .inl (q 0, 1152, .inl u))]) := by
  intro sz_
  refine kz_go (by decide +kernel) (Nat.le_of_ble_eq_true rfl) ?_
  intro p e s m below meth c ls args A Q H locs hQ hA X U hl
  have hx := X.1
  have hb := X.2.1
  have hl : lv_has ls 4 [(0, .ref ho), (1, .int (nI n)), (2, .int (nI c_))] := hl
  have hT128 := hT.1
  refine kz_ic X 3 kd_Mo_include_0 (by decide) ?_
  refine kz_sp X 256 kd_Mo_include_1 (by decide) ?_
  refine lv_iload_n hx hb kd_Mo_include_4 rfl (lv_at hl 1 rfl) ?_
  refine kz_iadd X kd_Mo_include_5 ?_
  refine kz_top (y := nI (256 + n)) rfl ?_
  refine kz_imul X kd_Mo_include_6 ?_
  refine kz_top (y := nI (3 * (256 + n))) rfl ?_
  refine lv_iload_n hx hb kd_Mo_include_7 rfl (lv_at hl 2 rfl) ?_
  refine kz_bp X 32 kd_Mo_include_8 (by decide) ?_
  refine kz_isub X (by omega) kd_Mo_include_10 ?_
  refine kz_bp X 32 kd_Mo_include_11 (by decide) ?_
  refine kz_idiv X (by omega) (by omega) (by omega) kd_Mo_include_13 ?_
  refine kz_iadd X kd_Mo_include_14 ?_
  refine kz_top (y := nI (3 * (256 + n) + ((c_ - 32) / 32))) rfl ?_
  refine lv_istore_n hx hb kd_Mo_include_15 rfl hl (by decide) rfl (fun ls hl => ?_)
  have hl : lv_has ls 4 [(3, .int (nI (3 * (256 + n) + ((c_ - 32) / 32)))), (0, .ref ho), (1, .int (nI n)), (2, .int (nI c_))] := hl
  refine lv_aload_n hx hb kd_Mo_include_16 rfl (lv_at hl 1 rfl) ?_
  refine kg_Mo_31 X U 0 rfl rfl kd_Mo_include_17 ?_
  refine lv_iload_n hx hb kd_Mo_include_20 rfl (lv_at hl 0 rfl) ?_
  refine lv_aload_n hx hb kd_Mo_include_21 rfl (lv_at hl 1 rfl) ?_
  refine kg_Mo_31 X U 0 rfl rfl kd_Mo_include_22 ?_
  refine lv_iload_n hx hb kd_Mo_include_25 rfl (lv_at hl 0 rfl) ?_
  refine kz_iald (k := 3 * (256 + n) + ((c_ - 32) / 32)) X U 1 rfl (by omega) (by omega) kd_Mo_include_26 ?_
  refine kz_ic X 1 kd_Mo_include_27 (by decide) ?_
  refine lv_iload_n hx hb kd_Mo_include_28 rfl (lv_at hl 3 rfl) ?_
  refine kz_bp X 32 kd_Mo_include_29 (by decide) ?_
  refine kz_isub X (by omega) kd_Mo_include_31 ?_
  refine kz_bp X 32 kd_Mo_include_32 (by decide) ?_
  refine kz_irem X (by omega) (by omega) (by omega) kd_Mo_include_34 ?_
  refine lv_ishl hx hb kd_Mo_include_35 ?_
  refine lv_ior hx hb kd_Mo_include_36 ?_
  refine kz_iast (k := 3 * (256 + n) + ((c_ - 32) / 32)) X U 1 rfl (by omega) (by omega) kd_Mo_include_37 (fun H locs U => ?_)
  have U : kz_U D q s A [(ho, .inr (6, [.ref mb, .int (nI sz), .ref mt, .int (nI ln), .ref mw, .int (nI wn), .ref mc, .ref mk, .ref m1, .ref m2, .ref ms, .int (nI dp), .ref mu, .ref mi, .ref mr, .ref mn, .ref mp, .int (nI st_), .int lo_, .int (nI im), .int (nB ex), .ref mj, .int (nI en), .ref me, .ref mh, .int (nB ds)])), (ms, .inl (q 0, 1152, .inl (upd se (3 * (256 + n) + ((c_ - 32) / 32)) ((se (3 * (256 + n) + ((c_ - 32) / 32))) ||| ((nI 1) <<< ((nI ((c_ - 32) % 32)) &&& 31))))))] H locs := U
  exact kz_ev hQ hA X U (upd se (3 * (256 + n) + ((c_ - 32) / 32)) (se (3 * (256 + n) + ((c_ - 32) / 32)) ||| (nI 1 <<< (nI ((c_ - 32) % 32) &&& 31)))) rfl (by rw [md_gd hn, ← (hT.2.1 n hn).2.2.2 _ (by omega)]; exact md_T_set hT hn (by omega) _) kd_Mo_include_38

set_option maxHeartbeats 4000000 in
set_option maxRecDepth 100000 in
theorem cm_Mo_open (l : Launch) (D : va_G) (q : Nat → ClassId) (ho mb mt mw mc mk m1 m2 ms mu mi mr mn mp mj me mh : Nat) (sz ln wn dp st_ im en : Nat) (lo_ : Int32) (ex ds : Bool) (un ii rw_ no pc_ : Nat → Nat) (hdp : dp ≤ 41) : kz_Mv (S := Unit) l ky_Mo_open kb_Mo_open 1 0 D q [.ref ho] [(ho, .inr (6, [.ref mb, .int (nI sz), .ref mt, .int (nI ln), .ref mw, .int (nI wn), .ref mc, .ref mk, .ref m1, .ref m2, .ref ms, .int (nI dp), .ref mu, .ref mi, .ref mr, .ref mn, .ref mp, .int (nI st_), .int lo_, .int (nI im), .int (nB ex), .ref mj, .int (nI en), .ref me, .ref mh, .int (nB ds)])), (mu, .inl (q 0, 42, .inl (fun x_ => nI (un x_) + (-1)))), (mi, .inl (q 0, 42, .inl (fun x_ => nI (ii x_) + (-1)))), (mr, .inl (q 0, 42, .inl (fun x_ => nI (rw_ x_) + (-1)))), (mn, .inl (q 0, 42, .inl (fun x_ => nI (no x_)))), (mp, .inl (q 0, 42, .inl (fun x_ => nI (pc_ x_) + (-1))))] (fun _ => True) (fun _ => [(ho, .inr (6, [.ref mb, .int (nI sz), .ref mt, .int (nI ln), .ref mw, .int (nI wn), .ref mc, .ref mk, .ref m1, .ref m2, .ref ms, .int (nI dp), .ref mu, .ref mi, .ref mr, .ref mn, .ref mp, .int (nI st_), .int lo_, .int (nI im), .int (nB ex), .ref mj, .int (nI en), .ref me, .ref mh, .int (nB ds)])), (mu, .inl (q 0, 42, .inl (fun x_ => nI ((va_up un dp 0) x_) + (-1)))), (mi, .inl (q 0, 42, .inl (fun x_ => nI ((va_up ii dp 0) x_) + (-1)))), (mr, .inl (q 0, 42, .inl (fun x_ => nI ((va_up rw_ dp 0) x_) + (-1)))), (mn, .inl (q 0, 42, .inl (fun x_ => nI ((va_up no dp 0) x_)))), (mp, .inl (q 0, 42, .inl (fun x_ => nI ((va_up pc_ dp 0) x_) + (-1))))]) := by
  intro sz_
  refine kz_go (by decide +kernel) (Nat.le_of_ble_eq_true rfl) ?_
  intro p e s m below meth c ls args A Q H locs hQ hA X U hl
  have hx := X.1
  have hb := X.2.1
  have hl : lv_has ls 1 [(0, .ref ho)] := hl
  refine lv_aload_n hx hb kd_Mo_open_0 rfl (lv_at hl 0 rfl) ?_
  refine kg_Mo_34 X U 0 rfl rfl kd_Mo_open_1 ?_
  refine lv_aload_n hx hb kd_Mo_open_4 rfl (lv_at hl 0 rfl) ?_
  refine kg_Mo_62 X U 0 rfl rfl kd_Mo_open_5 ?_
  refine lv_iconst (v := (-1)) hx hb kd_Mo_open_8 (by decide) ?_
  refine kz_top (y := nI 0 + (-1)) (by decide) ?_
  refine kz_iast (k := dp) X U 1 rfl (by omega) (by omega) kd_Mo_open_9 (fun H locs U => ?_)
  rw [kz_updM] at U
  have U : kz_U D q s A [(ho, .inr (6, [.ref mb, .int (nI sz), .ref mt, .int (nI ln), .ref mw, .int (nI wn), .ref mc, .ref mk, .ref m1, .ref m2, .ref ms, .int (nI dp), .ref mu, .ref mi, .ref mr, .ref mn, .ref mp, .int (nI st_), .int lo_, .int (nI im), .int (nB ex), .ref mj, .int (nI en), .ref me, .ref mh, .int (nB ds)])), (mu, .inl (q 0, 42, .inl (fun x_ => nI ((va_up un dp 0) x_) + (-1)))), (mi, .inl (q 0, 42, .inl (fun x_ => nI (ii x_) + (-1)))), (mr, .inl (q 0, 42, .inl (fun x_ => nI (rw_ x_) + (-1)))), (mn, .inl (q 0, 42, .inl (fun x_ => nI (no x_)))), (mp, .inl (q 0, 42, .inl (fun x_ => nI (pc_ x_) + (-1))))] H locs := U
  refine lv_aload_n hx hb kd_Mo_open_10 rfl (lv_at hl 0 rfl) ?_
  refine kg_Mo_37 X U 0 rfl rfl kd_Mo_open_11 ?_
  refine lv_aload_n hx hb kd_Mo_open_14 rfl (lv_at hl 0 rfl) ?_
  refine kg_Mo_62 X U 0 rfl rfl kd_Mo_open_15 ?_
  refine lv_iconst (v := (-1)) hx hb kd_Mo_open_18 (by decide) ?_
  refine kz_top (y := nI 0 + (-1)) (by decide) ?_
  refine kz_iast (k := dp) X U 2 rfl (by omega) (by omega) kd_Mo_open_19 (fun H locs U => ?_)
  rw [kz_updM] at U
  have U : kz_U D q s A [(ho, .inr (6, [.ref mb, .int (nI sz), .ref mt, .int (nI ln), .ref mw, .int (nI wn), .ref mc, .ref mk, .ref m1, .ref m2, .ref ms, .int (nI dp), .ref mu, .ref mi, .ref mr, .ref mn, .ref mp, .int (nI st_), .int lo_, .int (nI im), .int (nB ex), .ref mj, .int (nI en), .ref me, .ref mh, .int (nB ds)])), (mu, .inl (q 0, 42, .inl (fun x_ => nI ((va_up un dp 0) x_) + (-1)))), (mi, .inl (q 0, 42, .inl (fun x_ => nI ((va_up ii dp 0) x_) + (-1)))), (mr, .inl (q 0, 42, .inl (fun x_ => nI (rw_ x_) + (-1)))), (mn, .inl (q 0, 42, .inl (fun x_ => nI (no x_)))), (mp, .inl (q 0, 42, .inl (fun x_ => nI (pc_ x_) + (-1))))] H locs := U
  refine lv_aload_n hx hb kd_Mo_open_20 rfl (lv_at hl 0 rfl) ?_
  refine kg_Mo_40 X U 0 rfl rfl kd_Mo_open_21 ?_
  refine lv_aload_n hx hb kd_Mo_open_24 rfl (lv_at hl 0 rfl) ?_
  refine kg_Mo_62 X U 0 rfl rfl kd_Mo_open_25 ?_
  refine lv_iconst (v := (-1)) hx hb kd_Mo_open_28 (by decide) ?_
  refine kz_top (y := nI 0 + (-1)) (by decide) ?_
  refine kz_iast (k := dp) X U 3 rfl (by omega) (by omega) kd_Mo_open_29 (fun H locs U => ?_)
  rw [kz_updM] at U
  have U : kz_U D q s A [(ho, .inr (6, [.ref mb, .int (nI sz), .ref mt, .int (nI ln), .ref mw, .int (nI wn), .ref mc, .ref mk, .ref m1, .ref m2, .ref ms, .int (nI dp), .ref mu, .ref mi, .ref mr, .ref mn, .ref mp, .int (nI st_), .int lo_, .int (nI im), .int (nB ex), .ref mj, .int (nI en), .ref me, .ref mh, .int (nB ds)])), (mu, .inl (q 0, 42, .inl (fun x_ => nI ((va_up un dp 0) x_) + (-1)))), (mi, .inl (q 0, 42, .inl (fun x_ => nI ((va_up ii dp 0) x_) + (-1)))), (mr, .inl (q 0, 42, .inl (fun x_ => nI ((va_up rw_ dp 0) x_) + (-1)))), (mn, .inl (q 0, 42, .inl (fun x_ => nI (no x_)))), (mp, .inl (q 0, 42, .inl (fun x_ => nI (pc_ x_) + (-1))))] H locs := U
  refine lv_aload_n hx hb kd_Mo_open_30 rfl (lv_at hl 0 rfl) ?_
  refine kg_Mo_43 X U 0 rfl rfl kd_Mo_open_31 ?_
  refine lv_aload_n hx hb kd_Mo_open_34 rfl (lv_at hl 0 rfl) ?_
  refine kg_Mo_62 X U 0 rfl rfl kd_Mo_open_35 ?_
  refine kz_ic X 0 kd_Mo_open_38 (by decide) ?_
  refine kz_iast (k := dp) X U 4 rfl (by omega) (by omega) kd_Mo_open_39 (fun H locs U => ?_)
  rw [kz_updN] at U
  have U : kz_U D q s A [(ho, .inr (6, [.ref mb, .int (nI sz), .ref mt, .int (nI ln), .ref mw, .int (nI wn), .ref mc, .ref mk, .ref m1, .ref m2, .ref ms, .int (nI dp), .ref mu, .ref mi, .ref mr, .ref mn, .ref mp, .int (nI st_), .int lo_, .int (nI im), .int (nB ex), .ref mj, .int (nI en), .ref me, .ref mh, .int (nB ds)])), (mu, .inl (q 0, 42, .inl (fun x_ => nI ((va_up un dp 0) x_) + (-1)))), (mi, .inl (q 0, 42, .inl (fun x_ => nI ((va_up ii dp 0) x_) + (-1)))), (mr, .inl (q 0, 42, .inl (fun x_ => nI ((va_up rw_ dp 0) x_) + (-1)))), (mn, .inl (q 0, 42, .inl (fun x_ => nI ((va_up no dp 0) x_)))), (mp, .inl (q 0, 42, .inl (fun x_ => nI (pc_ x_) + (-1))))] H locs := U
  refine lv_aload_n hx hb kd_Mo_open_40 rfl (lv_at hl 0 rfl) ?_
  refine kg_Mo_46 X U 0 rfl rfl kd_Mo_open_41 ?_
  refine lv_aload_n hx hb kd_Mo_open_44 rfl (lv_at hl 0 rfl) ?_
  refine kg_Mo_62 X U 0 rfl rfl kd_Mo_open_45 ?_
  refine lv_iconst (v := (-1)) hx hb kd_Mo_open_48 (by decide) ?_
  refine kz_top (y := nI 0 + (-1)) (by decide) ?_
  refine kz_iast (k := dp) X U 5 rfl (by omega) (by omega) kd_Mo_open_49 (fun H locs U => ?_)
  rw [kz_updM] at U
  have U : kz_U D q s A [(ho, .inr (6, [.ref mb, .int (nI sz), .ref mt, .int (nI ln), .ref mw, .int (nI wn), .ref mc, .ref mk, .ref m1, .ref m2, .ref ms, .int (nI dp), .ref mu, .ref mi, .ref mr, .ref mn, .ref mp, .int (nI st_), .int lo_, .int (nI im), .int (nB ex), .ref mj, .int (nI en), .ref me, .ref mh, .int (nB ds)])), (mu, .inl (q 0, 42, .inl (fun x_ => nI ((va_up un dp 0) x_) + (-1)))), (mi, .inl (q 0, 42, .inl (fun x_ => nI ((va_up ii dp 0) x_) + (-1)))), (mr, .inl (q 0, 42, .inl (fun x_ => nI ((va_up rw_ dp 0) x_) + (-1)))), (mn, .inl (q 0, 42, .inl (fun x_ => nI ((va_up no dp 0) x_)))), (mp, .inl (q 0, 42, .inl (fun x_ => nI ((va_up pc_ dp 0) x_) + (-1))))] H locs := U
  exact kz_ev hQ hA X U (()) rfl (trivial) kd_Mo_open_50

set_option maxHeartbeats 4000000 in
set_option maxRecDepth 100000 in
theorem cm_Mo_isDone (l : Launch) (D : va_G) (q : Nat → ClassId) (ho mb mt mw mc mk m1 m2 ms mu mi mr mn mp mj me mh : Nat) (sz ln wn dp st_ im en : Nat) (lo_ : Int32) (ex ds : Bool) (un ii rw_ no pc_ : Nat → Nat) (hdp : dp ≤ 41) (hno : no dp < 1000) (hpc : pc_ dp < 1000) : kz_Mi (S := Unit) l ky_Mo_isDone kb_Mo_isDone 1 (some .boolean) 0 D q [.ref ho] [(ho, .inr (6, [.ref mb, .int (nI sz), .ref mt, .int (nI ln), .ref mw, .int (nI wn), .ref mc, .ref mk, .ref m1, .ref m2, .ref ms, .int (nI dp), .ref mu, .ref mi, .ref mr, .ref mn, .ref mp, .int (nI st_), .int lo_, .int (nI im), .int (nB ex), .ref mj, .int (nI en), .ref me, .ref mh, .int (nB ds)])), (mn, .inl (q 0, 42, .inl (fun x_ => nI (no x_)))), (mp, .inl (q 0, 42, .inl (fun x_ => nI (pc_ x_) + (-1))))] (fun r _ => r = nB (decide (no dp = 0 ∨ 0 < pc_ dp))) (fun _ => [(ho, .inr (6, [.ref mb, .int (nI sz), .ref mt, .int (nI ln), .ref mw, .int (nI wn), .ref mc, .ref mk, .ref m1, .ref m2, .ref ms, .int (nI dp), .ref mu, .ref mi, .ref mr, .ref mn, .ref mp, .int (nI st_), .int lo_, .int (nI im), .int (nB ex), .ref mj, .int (nI en), .ref me, .ref mh, .int (nB ds)])), (mn, .inl (q 0, 42, .inl (fun x_ => nI (no x_)))), (mp, .inl (q 0, 42, .inl (fun x_ => nI (pc_ x_) + (-1))))]) := by
  intro sz_
  refine kz_go (by decide +kernel) (Nat.le_of_ble_eq_true rfl) ?_
  intro p e s m below meth c ls args A Q H locs hQ hA X U hl
  have hx := X.1
  have hb := X.2.1
  have hl : lv_has ls 1 [(0, .ref ho)] := hl
  refine lv_aload_n hx hb kd_Mo_isDone_0 rfl (lv_at hl 0 rfl) ?_
  refine kg_Mo_43 X U 0 rfl rfl kd_Mo_isDone_1 ?_
  refine lv_aload_n hx hb kd_Mo_isDone_4 rfl (lv_at hl 0 rfl) ?_
  refine kg_Mo_62 X U 0 rfl rfl kd_Mo_isDone_5 ?_
  refine kz_iald (k := dp) X U 1 rfl (by omega) (by omega) kd_Mo_isDone_8 ?_
  refine kz_top (y := nI (no dp)) rfl ?_
  refine kz_neq X (by omega) kd_Mo_isDone_9 rfl (fun h9 => ?_) (fun h9 => ?_)
  · refine kz_ic X 1 kd_Mo_isDone_24 (by decide) ?_
    refine lv_goto hx hb kd_Mo_isDone_25 rfl ?_
    refine kz_top (y := nB true) rfl ?_
    exact kz_ez hQ hA X U (()) rfl (by first | rw [decide_eq_true (by omega)] | rw [decide_eq_false (by omega)]) kd_Mo_isDone_29
  · refine lv_aload_n hx hb kd_Mo_isDone_12 rfl (lv_at hl 0 rfl) ?_
    refine kg_Mo_46 X U 0 rfl rfl kd_Mo_isDone_13 ?_
    refine lv_aload_n hx hb kd_Mo_isDone_16 rfl (lv_at hl 0 rfl) ?_
    refine kg_Mo_62 X U 0 rfl rfl kd_Mo_isDone_17 ?_
    refine kz_iald (k := dp) X U 2 rfl (by omega) (by omega) kd_Mo_isDone_20 ?_
    refine kz_top (y := nI (pc_ dp) + (-1)) rfl ?_
    refine kz_mlt X (by omega) kd_Mo_isDone_21 rfl (fun h21 => ?_) (fun h21 => ?_)
    · refine kz_ic X 0 kd_Mo_isDone_28 (by decide) ?_
      refine kz_top (y := nB false) rfl ?_
      exact kz_ez hQ hA X U (()) rfl (by first | rw [decide_eq_true (by omega)] | rw [decide_eq_false (by omega)]) kd_Mo_isDone_29
    · refine kz_ic X 1 kd_Mo_isDone_24 (by decide) ?_
      refine lv_goto hx hb kd_Mo_isDone_25 rfl ?_
      refine kz_top (y := nB true) rfl ?_
      exact kz_ez hQ hA X U (()) rfl (by first | rw [decide_eq_true (by omega)] | rw [decide_eq_false (by omega)]) kd_Mo_isDone_29

set_option maxHeartbeats 4000000 in
set_option maxRecDepth 100000 in
theorem cm_Mo_undash (l : Launch) (D : va_G) (q : Nat → ClassId) (ho mb mt mw mc mk m1 m2 ms mu mi mr mn mp mj me mh : Nat) (sz ln wn dp st_ im en : Nat) (lo_ : Int32) (ex ds : Bool) (ct kd on tw : Nat → Nat) (se : Nat → Int32) (NL : List md_N) (b_ : md_B) (n : Nat) (hT : md_T NL b_ kd on tw se) (hn : n < NL.length) : kz_Mv (S := Nat → Int32) l ky_Mo_undash kb_Mo_undash 3 0 D q [.ref ho, .int (nI n)] [(ho, .inr (6, [.ref mb, .int (nI sz), .ref mt, .int (nI ln), .ref mw, .int (nI wn), .ref mc, .ref mk, .ref m1, .ref m2, .ref ms, .int (nI dp), .ref mu, .ref mi, .ref mr, .ref mn, .ref mp, .int (nI st_), .int lo_, .int (nI im), .int (nB ex), .ref mj, .int (nI en), .ref me, .ref mh, .int (nB ds)])), (ms, .inl (q 0, 1152, .inl se))] (fun u => md_T (if ds = true then NL else md_set NL n 0 ((NL.getD n (0, 0, 0, fun _ => 0)).2.2.2 0 &&& (-8193))) b_ kd on tw u) (fun u => [(ho, .inr (6, [.ref mb, .int (nI sz), .ref mt, .int (nI ln), .ref mw, .int (nI wn), .ref mc, .ref mk, .ref m1, .ref m2, .ref ms, .int (nI dp), .ref mu, .ref mi, .ref mr, .ref mn, .ref mp, .int (nI st_), .int lo_, .int (nI im), .int (nB ex), .ref mj, .int (nI en), .ref me, .ref mh, .int (nB ds)])), (ms, .inl (q 0, 1152, .inl u))]) := by
  intro sz_
  refine kz_go (by decide +kernel) (Nat.le_of_ble_eq_true rfl) ?_
  intro p e s m below meth c ls args A Q H locs hQ hA X U hl
  have hx := X.1
  have hb := X.2.1
  have hl : lv_has ls 3 [(0, .ref ho), (1, .int (nI n))] := hl
  have hT128 := hT.1
  refine kz_ic X 3 kd_Mo_undash_0 (by decide) ?_
  refine kz_sp X 256 kd_Mo_undash_1 (by decide) ?_
  refine lv_iload_n hx hb kd_Mo_undash_4 rfl (lv_at hl 1 rfl) ?_
  refine kz_iadd X kd_Mo_undash_5 ?_
  refine kz_top (y := nI (256 + n)) rfl ?_
  refine kz_imul X kd_Mo_undash_6 ?_
  refine kz_top (y := nI (3 * (256 + n))) rfl ?_
  refine kz_ic X 0 kd_Mo_undash_7 (by decide) ?_
  refine kz_iadd X kd_Mo_undash_8 ?_
  refine kz_top (y := nI (3 * (256 + n))) rfl ?_
  refine lv_istore_n hx hb kd_Mo_undash_9 rfl hl (by decide) rfl (fun ls hl => ?_)
  have hl : lv_has ls 3 [(2, .int (nI (3 * (256 + n)))), (0, .ref ho), (1, .int (nI n))] := hl
  refine lv_aload_n hx hb kd_Mo_undash_10 rfl (lv_at hl 1 rfl) ?_
  refine kg_Mo_120 X U 0 rfl rfl kd_Mo_undash_11 ?_
  refine kz_ifneB X kd_Mo_undash_14 rfl (fun h14 => ?_) (fun h14 => ?_)
  · exact kz_ev hQ hA X U se rfl (by rw [if_pos h14]; exact hT) kd_Mo_undash_33
  · refine lv_aload_n hx hb kd_Mo_undash_17 rfl (lv_at hl 1 rfl) ?_
    refine kg_Mo_31 X U 0 rfl rfl kd_Mo_undash_18 ?_
    refine lv_iload_n hx hb kd_Mo_undash_21 rfl (lv_at hl 0 rfl) ?_
    refine lv_aload_n hx hb kd_Mo_undash_22 rfl (lv_at hl 1 rfl) ?_
    refine kg_Mo_31 X U 0 rfl rfl kd_Mo_undash_23 ?_
    refine lv_iload_n hx hb kd_Mo_undash_26 rfl (lv_at hl 0 rfl) ?_
    refine kz_iald (k := 3 * (256 + n)) X U 1 rfl (by omega) (by omega) kd_Mo_undash_27 ?_
    refine lv_sipush (v := (-8193)) hx hb kd_Mo_undash_28 (by decide) ?_
    refine lv_iand hx hb kd_Mo_undash_31 ?_
    refine kz_iast (k := 3 * (256 + n)) X U 1 rfl (by omega) (by omega) kd_Mo_undash_32 (fun H locs U => ?_)
    have U : kz_U D q s A [(ho, .inr (6, [.ref mb, .int (nI sz), .ref mt, .int (nI ln), .ref mw, .int (nI wn), .ref mc, .ref mk, .ref m1, .ref m2, .ref ms, .int (nI dp), .ref mu, .ref mi, .ref mr, .ref mn, .ref mp, .int (nI st_), .int lo_, .int (nI im), .int (nB ex), .ref mj, .int (nI en), .ref me, .ref mh, .int (nB ds)])), (ms, .inl (q 0, 1152, .inl (upd se (3 * (256 + n)) ((se (3 * (256 + n))) &&& ((-8193))))))] H locs := U
    exact kz_ev hQ hA X U (upd se (3 * (256 + n) + 0) (se (3 * (256 + n) + 0) &&& (-8193))) rfl (by rw [if_neg (by rw [h14]; decide), md_gd hn, ← (hT.2.1 n hn).2.2.2 0 (by omega)]; exact md_T_set hT hn (by omega) _) kd_Mo_undash_33
