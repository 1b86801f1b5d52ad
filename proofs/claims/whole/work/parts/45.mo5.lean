/-- nodes: kind, two parts, a most, the characters -/
abbrev nd_N : Type := Nat × Nat × Nat × Nat × (Nat → Bool)
def nd_S (n : nd_N) (L : Nat → dm_L) : dm_L := nd_sem n.1 n.2.1 n.2.2.1 n.2.2.2.1 n.2.2.2.2 L
def nd_go (Ls : List dm_L) : List nd_N → List dm_L
  | [] => Ls
  | n :: NL => nd_go (Ls ++ [nd_S n (fun j => Ls.getD j dm_eps)]) NL
def nd_all (NL : List nd_N) : List dm_L := nd_go [] NL
theorem nd_go_app (Ls : List dm_L) : ∀ (a b : List nd_N), nd_go Ls (a ++ b) = nd_go (nd_go Ls a) b
  | [], b => rfl
  | n :: a, b => nd_go_app _ a b
theorem nd_go_len : ∀ (Ls : List dm_L) (NL : List nd_N), (nd_go Ls NL).length = Ls.length + NL.length
  | Ls, [] => rfl
  | Ls, n :: NL => by
    show (nd_go (Ls ++ [_]) NL).length = _
    rw [nd_go_len, List.length_append, List.length_cons]
    simp
    omega
theorem nd_go_pre : ∀ (Ls : List dm_L) (NL : List nd_N) (j : Nat), j < Ls.length → (nd_go Ls NL).getD j dm_eps = Ls.getD j dm_eps
  | Ls, [], j, _ => rfl
  | Ls, n :: NL, j, h => by
    show (nd_go (Ls ++ [_]) NL).getD j dm_eps = _
    rw [nd_go_pre _ NL j (by rw [List.length_append]; omega), List.getD_eq_getElem?_getD, List.getD_eq_getElem?_getD, List.getElem?_append_left h]
theorem nd_all_snoc (NL : List nd_N) (n : nd_N) : nd_all (NL ++ [n]) = nd_all NL ++ [nd_S n (fun j => (nd_all NL).getD j dm_eps)] := by
  unfold nd_all
  rw [nd_go_app]
  rfl
theorem nd_all_len (NL : List nd_N) : (nd_all NL).length = NL.length := by
  unfold nd_all
  rw [nd_go_len]
  simp
theorem nd_sem_congr {k kk a b mm : Nat} {hs : Nat → Bool} {L L' : Nat → dm_L} (hf : nd_fine k kk a b mm) (h : ∀ j, j < k → L j = L' j) : nd_sem kk a b mm hs L = nd_sem kk a b mm hs L' := by
  obtain ⟨h1, -, -, h2, h3, -⟩ := hf
  unfold nd_sem
  by_cases e0 : kk = 0
  · rw [if_pos e0, if_pos e0]
  rw [if_neg e0, if_neg e0]
  by_cases e1 : kk = 1
  · rw [if_pos e1, if_pos e1]
  rw [if_neg e1, if_neg e1]
  have ha := h a (h2 (by omega))
  by_cases e2 : kk = 2
  · rw [if_pos e2, if_pos e2, ha, h b (h3 (by omega))]
  rw [if_neg e2, if_neg e2]
  by_cases e3 : kk = 3
  · rw [if_pos e3, if_pos e3, ha, h b (h3 (by omega))]
  rw [if_neg e3, if_neg e3]
  by_cases e4 : kk = 4
  · rw [if_pos e4, if_pos e4, ha, h b (h3 (by omega))]
  rw [if_neg e4, if_neg e4, ha]
def nd_ok (NL : List nd_N) : Prop := ∀ j (h : j < NL.length), nd_fine j (NL[j]).1 (NL[j]).2.1 (NL[j]).2.2.1 (NL[j]).2.2.2.1
theorem nd_all_at {NL : List nd_N} (hok : nd_ok NL) {k : Nat} (h : k < NL.length) : (nd_all NL).getD k dm_eps = nd_S (NL[k]) (fun j => (nd_all NL).getD j dm_eps) := by
  have e : NL = NL.take k ++ (NL[k] :: NL.drop (k + 1)) := by rw [← List.drop_eq_getElem_cons h, List.take_append_drop]
  have hl : (nd_all (NL.take k)).length = k := by rw [nd_all_len, List.length_take]; omega
  have e2 : nd_all NL = nd_go (nd_all (NL.take k) ++ [nd_S (NL[k]) (fun j => (nd_all (NL.take k)).getD j dm_eps)]) (NL.drop (k + 1)) := by
    have : nd_all NL = nd_all (NL.take k ++ (NL[k] :: NL.drop (k + 1))) := congrArg nd_all e
    rw [this]
    unfold nd_all
    rw [nd_go_app]
    rfl
  have e3 : (nd_all NL).getD k dm_eps = nd_S (NL[k]) (fun j => (nd_all (NL.take k)).getD j dm_eps) := by
    rw [e2, nd_go_pre _ _ _ (by rw [List.length_append, hl]; simp), List.getD_eq_getElem?_getD, List.getElem?_append_right (by omega), hl, Nat.sub_self]
    rfl
  rw [e3]
  refine nd_sem_congr (hok k h) (fun j hj => ?_)
  rw [e2, nd_go_pre _ _ _ (by rw [List.length_append, hl]; simp; omega), List.getD_eq_getElem?_getD, List.getD_eq_getElem?_getD, List.getElem?_append_left (by omega)]
/-- the nodes as they lie in the arrays, from place bs on -/
def nd_tab (bs : Nat) (NL : List nd_N) (kd on tw : Nat → Nat) (se : Nat → Int32) : Prop := NL.length ≤ 128 ∧ nd_ok NL ∧ ∀ j (h : j < NL.length), kd (bs + j) = (NL[j]).1 ∧ on (bs + j) = (NL[j]).2.1 ∧ tw (bs + j) = (NL[j]).2.2.1 ∧ ((NL[j]).1 = 9 → se (3 * (bs + j)) = nI (NL[j]).2.2.2.1) ∧ ((NL[j]).1 = 1 → ∀ c, 32 ≤ c → c < 128 → nd_hs se (bs + j) c = (NL[j]).2.2.2.2 c)
theorem mo_is_lang {en : Nat} {t : Nat → Nat} {A B : dm_L} {g : Nat → Int32} (h : mo_is en t A g) (e : ∀ i k, i + k ≤ en → (A (dm_cut t i k) ↔ B (dm_cut t i k))) : mo_is en t B g := by
  intro i hi j
  rw [h i hi j]
  constructor
  · rintro ⟨h1, h2, h3⟩; exact ⟨h1, h2, (e i (j - i) (by omega)).mp h3⟩
  · rintro ⟨h1, h2, h3⟩; exact ⟨h1, h2, (e i (j - i) (by omega)).mpr h3⟩
theorem nd_step {en bs k : Nat} {t kd on tw : Nat → Nat} {se : Nat → Int32} {NL : List nd_N} {g : Nat → Int32} (ht : nd_tab bs NL kd on tw se) (hk : k < NL.length) (htc : ∀ j, j < en → 32 ≤ t j ∧ t j < 128) (h : mo_is en t (nd_sem (NL[k]).1 (NL[k]).2.1 (NL[k]).2.2.1 (NL[k]).2.2.2.1 (nd_hs se (bs + k)) (fun j => (nd_all NL).getD j dm_eps)) g) : mo_is en t ((nd_all NL).getD k dm_eps) g := by
  rw [nd_all_at ht.2.1 hk]
  by_cases e1 : (NL[k]).1 = 1
  · refine mo_is_lang h (fun i m hm => ?_)
    have eS : ∀ hs, nd_sem (NL[k]).1 (NL[k]).2.1 (NL[k]).2.2.1 (NL[k]).2.2.2.1 hs (fun j => (nd_all NL).getD j dm_eps) = (fun w => ∃ c, w = [c] ∧ hs c = true) := fun hs => by unfold nd_sem; rw [if_neg (by omega), if_pos e1]
    unfold nd_S
    rw [eS, eS]
    have hc : ∀ c, dm_cut t i m = [c] → nd_hs se (bs + k) c = (NL[k]).2.2.2.2 c := by
      intro c hc
      have hl := congrArg List.length hc
      rw [dm_cut_len] at hl
      have hl : m = 1 := hl
      subst hl
      rw [dm_cut_1] at hc
      have : t i = c := by injection hc
      have hb := htc i (by omega)
      rw [← this]
      exact (ht.2.2 k hk).2.2.2.2 e1 _ hb.1 hb.2
    constructor
    · rintro ⟨c, h1, h2⟩; exact ⟨c, h1, by rw [← hc c h1]; exact h2⟩
    · rintro ⟨c, h1, h2⟩; exact ⟨c, h1, by rw [hc c h1]; exact h2⟩
  · have eS : nd_S (NL[k]) (fun j => (nd_all NL).getD j dm_eps) = nd_sem (NL[k]).1 (NL[k]).2.1 (NL[k]).2.2.1 (NL[k]).2.2.2.1 (nd_hs se (bs + k)) (fun j => (nd_all NL).getD j dm_eps) := by
      unfold nd_S nd_sem
      rw [if_neg e1, if_neg e1]
    rw [eS]
    exact h

set_option maxHeartbeats 4000000 in
set_option maxRecDepth 100000 in
theorem cm_Mo_look (l : Launch) (D : va_G) (q : Nat → ClassId) (ho mb mt mw mc mk m1 m2 ms mu mi mr mn mp mj me mh : Nat) (sz ln wn dp st_ im en : Nat) (lo_ : Int32) (ex ds : Bool) (p_ : Nat) (t ct kd on tw : Nat → Nat) (NL : List nd_N) (se es th : Nat → Int32) (hp_ : p_ ≤ 1) (hen : en ≤ 24) (hct : ct p_ = NL.length) (hN1 : 0 < NL.length) (htab : nd_tab (128 * p_) NL kd on tw se) (htc : ∀ j, j < en → 32 ≤ t j ∧ t j < 128) : kz_Mi (S := (Nat → Int32) × (Nat → Int32)) l ky_Mo_look kb_Mo_look 3 (some .int) 3 D q [.ref ho, .int (nI p_)] [(ho, .inr (6, [.ref mb, .int (nI sz), .ref mt, .int (nI ln), .ref mw, .int (nI wn), .ref mc, .ref mk, .ref m1, .ref m2, .ref ms, .int (nI dp), .ref mu, .ref mi, .ref mr, .ref mn, .ref mp, .int (nI st_), .int lo_, .int (nI im), .int (nB ex), .ref mj, .int (nI en), .ref me, .ref mh, .int (nB ds)])), (mc, .inl (q 0, 3, .inl (fun x_ => nI (ct x_)))), (mk, .inl (q 0, 384, .inl (fun x_ => nI (kd x_)))), (m1, .inl (q 0, 384, .inl (fun x_ => nI (on x_)))), (m2, .inl (q 0, 384, .inl (fun x_ => nI (tw x_)))), (ms, .inl (q 0, 1152, .inl se)), (mj, .inl (q 0, 24, .inl (fun x_ => nI (t x_)))), (me, .inl (q 0, 3200, .inl es)), (mh, .inl (q 0, 25, .inl th))] (fun r u => r = nI (25 * (NL.length - 1)) ∧ ∀ n, n < NL.length → mo_is en t ((nd_all NL).getD n dm_eps) (fun j => u.1 (25 * n + j))) (fun u => [(ho, .inr (6, [.ref mb, .int (nI sz), .ref mt, .int (nI ln), .ref mw, .int (nI wn), .ref mc, .ref mk, .ref m1, .ref m2, .ref ms, .int (nI dp), .ref mu, .ref mi, .ref mr, .ref mn, .ref mp, .int (nI st_), .int lo_, .int (nI im), .int (nB ex), .ref mj, .int (nI en), .ref me, .ref mh, .int (nB ds)])), (mc, .inl (q 0, 3, .inl (fun x_ => nI (ct x_)))), (mk, .inl (q 0, 384, .inl (fun x_ => nI (kd x_)))), (m1, .inl (q 0, 384, .inl (fun x_ => nI (on x_)))), (m2, .inl (q 0, 384, .inl (fun x_ => nI (tw x_)))), (ms, .inl (q 0, 1152, .inl se)), (mj, .inl (q 0, 24, .inl (fun x_ => nI (t x_)))), (me, .inl (q 0, 3200, .inl u.1)), (mh, .inl (q 0, 25, .inl u.2))]) := by
  intro sz_
  refine kz_go (by decide +kernel) (Nat.le_of_ble_eq_true rfl) ?_
  intro p e s m below meth c ls args A Q H locs hQ hA X U hl
  have hx := X.1
  have hb := X.2.1
  have hl : lv_has ls 3 [(0, .ref ho), (1, .int (nI p_))] := hl
  have hN128 := htab.1
  refine kz_ic X 0 kd_Mo_look_0 (by decide) ?_
  refine lv_istore_n hx hb kd_Mo_look_1 rfl hl (by decide) rfl (fun ls hl => ?_)
  have hl : lv_has ls 3 [(2, .int (nI 0)), (0, .ref ho), (1, .int (nI p_))] := hl
  have loop2 : ∀ (fuel : Nat) (k : Nat) (e2 : Nat → Int32) (th2 : Nat → Int32) (ls : Array Slot) (H : Heap) (locs : List Loc), NL.length + 1 - k < fuel → (k ≤ NL.length) → (∀ n, n < k → mo_is en t ((nd_all NL).getD n dm_eps) (fun j => e2 (25 * n + j))) → lv_has ls 3 [(2, .int (nI k)), (0, .ref ho), (1, .int (nI p_))] → kz_U D q s A [(ho, .inr (6, [.ref mb, .int (nI sz), .ref mt, .int (nI ln), .ref mw, .int (nI wn), .ref mc, .ref mk, .ref m1, .ref m2, .ref ms, .int (nI dp), .ref mu, .ref mi, .ref mr, .ref mn, .ref mp, .int (nI st_), .int lo_, .int (nI im), .int (nB ex), .ref mj, .int (nI en), .ref me, .ref mh, .int (nB ds)])), (mc, .inl (q 0, 3, .inl (fun x_ => nI (ct x_)))), (mk, .inl (q 0, 384, .inl (fun x_ => nI (kd x_)))), (m1, .inl (q 0, 384, .inl (fun x_ => nI (on x_)))), (m2, .inl (q 0, 384, .inl (fun x_ => nI (tw x_)))), (ms, .inl (q 0, 1152, .inl se)), (mj, .inl (q 0, 24, .inl (fun x_ => nI (t x_)))), (me, .inl (q 0, 3200, .inl e2)), (mh, .inl (q 0, 25, .inl th2))] H locs → W p l e (kz_rm 3) s m args below meth c H locs 0 0 Q (F0 m 2 ls []) := by
    intro fuel
    induction fuel with
    | zero => intro k e2 th2 ls H locs hme; exact absurd hme (Nat.not_lt_zero _)
    | succ fuel ih2 =>
      intro k e2 th2 ls H locs hme hk hin hl U
      refine lv_iload_n hx hb kd_Mo_look_2 rfl (lv_at hl 0 rfl) ?_
      refine lv_aload_n hx hb kd_Mo_look_3 rfl (lv_at hl 1 rfl) ?_
      refine kg_Mo_19 X U 0 rfl rfl kd_Mo_look_4 ?_
      refine lv_iload_n hx hb kd_Mo_look_7 rfl (lv_at hl 2 rfl) ?_
      refine kz_iald (k := p_) X U 1 rfl (by omega) (by omega) kd_Mo_look_8 ?_
      refine kz_top (y := nI (ct p_)) rfl ?_
      refine kz_top (y := nI NL.length) (by rw [hct]) ?_
      refine kz_icge X (by first | omega | (rw [hct]; omega)) (by first | omega | (rw [hct]; omega)) kd_Mo_look_9 rfl (fun h9 => ?_) (fun h9 => ?_)
      · refine kz_bp X 25 kd_Mo_look_28 (by decide) ?_
        refine lv_aload_n hx hb kd_Mo_look_30 rfl (lv_at hl 1 rfl) ?_
        refine kg_Mo_19 X U 0 rfl rfl kd_Mo_look_31 ?_
        refine lv_iload_n hx hb kd_Mo_look_34 rfl (lv_at hl 2 rfl) ?_
        refine kz_iald (k := p_) X U 1 rfl (by omega) (by omega) kd_Mo_look_35 ?_
        refine kz_top (y := nI (ct p_)) rfl ?_
        refine kz_top (y := nI NL.length) (by rw [hct]) ?_
        refine kz_ic X 1 kd_Mo_look_36 (by decide) ?_
        refine kz_isub X (by first | omega | (rw [hct]; omega)) kd_Mo_look_37 ?_
        refine kz_imul X kd_Mo_look_38 ?_
        refine kz_top (y := nI (25 * (NL.length - 1))) rfl ?_
        exact kz_ei hQ hA X U ((e2, th2)) rfl (⟨rfl, fun n hn => hin n (by omega)⟩) kd_Mo_look_39
      · have hkN : k < NL.length := h9
        refine lv_aload_n hx hb kd_Mo_look_12 rfl (lv_at hl 1 rfl) ?_
        refine kz_sp X 128 kd_Mo_look_13 (by decide) ?_
        refine lv_iload_n hx hb kd_Mo_look_16 rfl (lv_at hl 2 rfl) ?_
        refine kz_imul X kd_Mo_look_17 ?_
        refine kz_top (y := nI (128 * p_)) rfl ?_
        refine lv_iload_n hx hb kd_Mo_look_18 rfl (lv_at hl 0 rfl) ?_
        refine kz_cVv (av := [.int (nI (128 * p_)), .int (nI k)]) (rest := []) (wr := [(mc, .inl (q 0, 3, .inl (fun x_ => nI (ct x_))))]) X U hl.1 (cm_Mo_work l D q ho mb mt mw mc mk m1 m2 ms mu mi mr mn mp mj me mh sz ln wn dp st_ im en lo_ ex ds (128 * p_) k (NL[k]).1 (NL[k]).2.1 (NL[k]).2.2.1 (NL[k]).2.2.2.1 t kd on tw se e2 th2 (by omega) (by omega) hen (htab.2.2 k hkN).1 (htab.2.2 k hkN).2.1 (htab.2.2 k hkN).2.2.1 (htab.2.2 k hkN).2.2.2.1 (htab.2.1 k hkN) htc) (by decide) (by decide) ⟨by decide, by decide⟩ tb_606 tb_608 tb_s38 0 rfl rfl tb_11 tb_609 kq_Mo_work [0, 2, 3, 4, 5, 6, 7, 8] [1] (by decide) rfl rfl (by decide) (by decide) rfl (Nat.le_of_ble_eq_true rfl) kd_Mo_look_19 (fun u H locs hu U => ?_)
        have U : kz_U D q s A [(ho, .inr (6, [.ref mb, .int (nI sz), .ref mt, .int (nI ln), .ref mw, .int (nI wn), .ref mc, .ref mk, .ref m1, .ref m2, .ref ms, .int (nI dp), .ref mu, .ref mi, .ref mr, .ref mn, .ref mp, .int (nI st_), .int lo_, .int (nI im), .int (nB ex), .ref mj, .int (nI en), .ref me, .ref mh, .int (nB ds)])), (mc, .inl (q 0, 3, .inl (fun x_ => nI (ct x_)))), (mk, .inl (q 0, 384, .inl (fun x_ => nI (kd x_)))), (m1, .inl (q 0, 384, .inl (fun x_ => nI (on x_)))), (m2, .inl (q 0, 384, .inl (fun x_ => nI (tw x_)))), (ms, .inl (q 0, 1152, .inl se)), (mj, .inl (q 0, 24, .inl (fun x_ => nI (t x_)))), (me, .inl (q 0, 3200, .inl u.1)), (mh, .inl (q 0, 25, .inl u.2))] H locs := U.sub [1, 0, 2, 3, 4, 5, 6, 7, 8] (by decide) rfl
        refine lv_iinc (k := 0) (v := nI (k + 1)) hx hb kd_Mo_look_22 hl rfl (nI_add k 1) (by decide) rfl (fun ls hl => ?_)
        have hl : lv_has ls 3 [(2, .int (nI (k + 1))), (0, .ref ho), (1, .int (nI p_))] := hl
        refine lv_goto hx hb kd_Mo_look_25 rfl ?_
        exact ih2 (k + 1) _ _ _ _ _ (by omega) (by omega) (fun n hn => if e : n = k then (by rw [e]; exact nd_step htab hkN htc (hu.2 _ hin)) else mo_is_congr (hin n (by omega)) (fun j hj => hu.1 _ (Or.inl (by omega)))) (lv_sub hl [0, 1, 2] rfl) U
  exact loop2 _ 0 es th _ _ _ (Nat.lt_succ_self _) (by omega) (fun n h => absurd h (Nat.not_lt_zero _)) (lv_sub hl [0, 1, 2] rfl) U

set_option maxHeartbeats 4000000 in
set_option maxRecDepth 100000 in
theorem cm_Mo_lookAtText (l : Launch) (D : va_G) (q : Nat → ClassId) (ho mb mt mw mc mk m1 m2 ms mu mi mr mn mp mj me mh : Nat) (sz ln wn dp st_ im en : Nat) (lo_ : Int32) (ex ds : Bool) (p_ : Nat) (tx sj ct kd on tw : Nat → Nat) (NL : List nd_N) (se es th : Nat → Int32) (hp_ : p_ ≤ 1) (hln : ln ≤ 24) (hct : ct p_ = NL.length) (hN1 : 0 < NL.length) (htab : nd_tab (128 * p_) NL kd on tw se) (htx : ∀ j, j < ln → 32 ≤ tx j ∧ tx j < 128) : kz_Mi (S := (Nat → Int32) × (Nat → Int32)) l ky_Mo_lookAtText kb_Mo_lookAtText 3 (some .int) 4 D q [.ref ho, .int (nI p_)] [(ho, .inr (6, [.ref mb, .int (nI sz), .ref mt, .int (nI ln), .ref mw, .int (nI wn), .ref mc, .ref mk, .ref m1, .ref m2, .ref ms, .int (nI dp), .ref mu, .ref mi, .ref mr, .ref mn, .ref mp, .int (nI st_), .int lo_, .int (nI im), .int (nB ex), .ref mj, .int (nI en), .ref me, .ref mh, .int (nB ds)])), (mt, .inl (q 0, 24, .inl (fun x_ => nI (tx x_)))), (mc, .inl (q 0, 3, .inl (fun x_ => nI (ct x_)))), (mk, .inl (q 0, 384, .inl (fun x_ => nI (kd x_)))), (m1, .inl (q 0, 384, .inl (fun x_ => nI (on x_)))), (m2, .inl (q 0, 384, .inl (fun x_ => nI (tw x_)))), (ms, .inl (q 0, 1152, .inl se)), (mj, .inl (q 0, 24, .inl (fun x_ => nI (sj x_)))), (me, .inl (q 0, 3200, .inl es)), (mh, .inl (q 0, 25, .inl th))] (fun r u => r = nI (25 * (NL.length - 1)) ∧ ∀ n, n < NL.length → mo_is ln (va_cpy tx sj 0 0 ln) ((nd_all NL).getD n dm_eps) (fun j => u.1 (25 * n + j))) (fun u => [(ho, .inr (6, [.ref mb, .int (nI sz), .ref mt, .int (nI ln), .ref mw, .int (nI wn), .ref mc, .ref mk, .ref m1, .ref m2, .ref ms, .int (nI dp), .ref mu, .ref mi, .ref mr, .ref mn, .ref mp, .int (nI st_), .int lo_, .int (nI im), .int (nB ex), .ref mj, .int (nI ln), .ref me, .ref mh, .int (nB ds)])), (mt, .inl (q 0, 24, .inl (fun x_ => nI (tx x_)))), (mc, .inl (q 0, 3, .inl (fun x_ => nI (ct x_)))), (mk, .inl (q 0, 384, .inl (fun x_ => nI (kd x_)))), (m1, .inl (q 0, 384, .inl (fun x_ => nI (on x_)))), (m2, .inl (q 0, 384, .inl (fun x_ => nI (tw x_)))), (ms, .inl (q 0, 1152, .inl se)), (mj, .inl (q 0, 24, .inl (fun x_ => nI ((va_cpy tx sj 0 0 ln) x_)))), (me, .inl (q 0, 3200, .inl u.1)), (mh, .inl (q 0, 25, .inl u.2))]) := by
  intro sz_
  refine kz_go (by decide +kernel) (Nat.le_of_ble_eq_true rfl) ?_
  intro p e s m below meth c ls args A Q H locs hQ hA X U hl
  have hx := X.1
  have hb := X.2.1
  have hl : lv_has ls 3 [(0, .ref ho), (1, .int (nI p_))] := hl
  refine lv_aload_n hx hb kd_Mo_lookAtText_0 rfl (lv_at hl 0 rfl) ?_
  refine lv_aload_n hx hb kd_Mo_lookAtText_1 rfl (lv_at hl 0 rfl) ?_
  refine kg_Mo_139 X U 0 rfl rfl kd_Mo_lookAtText_2 ?_
  refine kp_Mo_142 X U 0 rfl (Nat.le_of_ble_eq_true rfl) kd_Mo_lookAtText_5 (fun H locs U => ?_)
  have U : kz_U D q s A [(ho, .inr (6, [.ref mb, .int (nI sz), .ref mt, .int (nI ln), .ref mw, .int (nI wn), .ref mc, .ref mk, .ref m1, .ref m2, .ref ms, .int (nI dp), .ref mu, .ref mi, .ref mr, .ref mn, .ref mp, .int (nI st_), .int lo_, .int (nI im), .int (nB ex), .ref mj, .int (nI ln), .ref me, .ref mh, .int (nB ds)])), (mt, .inl (q 0, 24, .inl (fun x_ => nI (tx x_)))), (mc, .inl (q 0, 3, .inl (fun x_ => nI (ct x_)))), (mk, .inl (q 0, 384, .inl (fun x_ => nI (kd x_)))), (m1, .inl (q 0, 384, .inl (fun x_ => nI (on x_)))), (m2, .inl (q 0, 384, .inl (fun x_ => nI (tw x_)))), (ms, .inl (q 0, 1152, .inl se)), (mj, .inl (q 0, 24, .inl (fun x_ => nI (sj x_)))), (me, .inl (q 0, 3200, .inl es)), (mh, .inl (q 0, 25, .inl th))] H locs := U
  refine kz_ic X 0 kd_Mo_lookAtText_8 (by decide) ?_
  refine lv_istore_n hx hb kd_Mo_lookAtText_9 rfl hl (by decide) rfl (fun ls hl => ?_)
  have hl : lv_has ls 3 [(2, .int (nI 0)), (0, .ref ho), (1, .int (nI p_))] := hl
  have loop10 : ∀ (fuel : Nat) (i : Nat) (ls : Array Slot) (H : Heap) (locs : List Loc), ln + 1 - i < fuel → (i ≤ ln) → lv_has ls 3 [(2, .int (nI i)), (0, .ref ho), (1, .int (nI p_))] → kz_U D q s A [(ho, .inr (6, [.ref mb, .int (nI sz), .ref mt, .int (nI ln), .ref mw, .int (nI wn), .ref mc, .ref mk, .ref m1, .ref m2, .ref ms, .int (nI dp), .ref mu, .ref mi, .ref mr, .ref mn, .ref mp, .int (nI st_), .int lo_, .int (nI im), .int (nB ex), .ref mj, .int (nI ln), .ref me, .ref mh, .int (nB ds)])), (mt, .inl (q 0, 24, .inl (fun x_ => nI (tx x_)))), (mc, .inl (q 0, 3, .inl (fun x_ => nI (ct x_)))), (mk, .inl (q 0, 384, .inl (fun x_ => nI (kd x_)))), (m1, .inl (q 0, 384, .inl (fun x_ => nI (on x_)))), (m2, .inl (q 0, 384, .inl (fun x_ => nI (tw x_)))), (ms, .inl (q 0, 1152, .inl se)), (mj, .inl (q 0, 24, .inl (kz_fl (fun j => nI (tx j)) (fun j => nI (sj j)) i))), (me, .inl (q 0, 3200, .inl es)), (mh, .inl (q 0, 25, .inl th))] H locs → W p l e (kz_rm 4) s m args below meth c H locs 0 0 Q (F0 m 10 ls []) := by
    intro fuel
    induction fuel with
    | zero => intro i ls H locs hme; exact absurd hme (Nat.not_lt_zero _)
    | succ fuel ih10 =>
      intro i ls H locs hme hi hl U
      refine lv_iload_n hx hb kd_Mo_lookAtText_10 rfl (lv_at hl 0 rfl) ?_
      refine lv_aload_n hx hb kd_Mo_lookAtText_11 rfl (lv_at hl 1 rfl) ?_
      refine kg_Mo_139 X U 0 rfl rfl kd_Mo_lookAtText_12 ?_
      refine kz_icge X (by omega) (by omega) kd_Mo_lookAtText_15 rfl (fun h15 => ?_) (fun h15 => ?_)
      · rw [show i = ln by omega, kz_flN] at U
        have U : kz_U D q s A [(ho, .inr (6, [.ref mb, .int (nI sz), .ref mt, .int (nI ln), .ref mw, .int (nI wn), .ref mc, .ref mk, .ref m1, .ref m2, .ref ms, .int (nI dp), .ref mu, .ref mi, .ref mr, .ref mn, .ref mp, .int (nI st_), .int lo_, .int (nI im), .int (nB ex), .ref mj, .int (nI ln), .ref me, .ref mh, .int (nB ds)])), (mt, .inl (q 0, 24, .inl (fun x_ => nI (tx x_)))), (mc, .inl (q 0, 3, .inl (fun x_ => nI (ct x_)))), (mk, .inl (q 0, 384, .inl (fun x_ => nI (kd x_)))), (m1, .inl (q 0, 384, .inl (fun x_ => nI (on x_)))), (m2, .inl (q 0, 384, .inl (fun x_ => nI (tw x_)))), (ms, .inl (q 0, 1152, .inl se)), (mj, .inl (q 0, 24, .inl (fun x_ => nI ((va_cpy tx sj 0 0 ln) x_)))), (me, .inl (q 0, 3200, .inl es)), (mh, .inl (q 0, 25, .inl th))] H locs := U
        refine lv_aload_n hx hb kd_Mo_lookAtText_36 rfl (lv_at hl 1 rfl) ?_
        refine lv_iload_n hx hb kd_Mo_lookAtText_37 rfl (lv_at hl 2 rfl) ?_
        refine kz_cVi (av := [.int (nI p_)]) (rest := []) (wr := [(mt, .inl (q 0, 24, .inl (fun x_ => nI (tx x_))))]) X U hl.1 (cm_Mo_look l D q ho mb mt mw mc mk m1 m2 ms mu mi mr mn mp mj me mh sz ln wn dp st_ im ln lo_ ex ds p_ (va_cpy tx sj 0 0 ln) ct kd on tw NL se es th hp_ hln hct hN1 htab (fun j hj => by rw [pk_cpy_in (by omega) (by omega)]; have := htx j hj; simpa using this)) (by decide) (by decide) ⟨by decide, by decide⟩ tb_602 tb_604 tb_s37 0 rfl rfl tb_11 tb_605 kq_Mo_look [0, 2, 3, 4, 5, 6, 7, 8, 9] [1] (by decide) rfl rfl (by decide) (by decide) rfl (Nat.le_of_ble_eq_true rfl) kd_Mo_lookAtText_38 (fun rv u H locs hu U => ?_)
        obtain ⟨hu1, hu2⟩ := hu
        subst hu1
        have U : kz_U D q s A [(ho, .inr (6, [.ref mb, .int (nI sz), .ref mt, .int (nI ln), .ref mw, .int (nI wn), .ref mc, .ref mk, .ref m1, .ref m2, .ref ms, .int (nI dp), .ref mu, .ref mi, .ref mr, .ref mn, .ref mp, .int (nI st_), .int lo_, .int (nI im), .int (nB ex), .ref mj, .int (nI ln), .ref me, .ref mh, .int (nB ds)])), (mt, .inl (q 0, 24, .inl (fun x_ => nI (tx x_)))), (mc, .inl (q 0, 3, .inl (fun x_ => nI (ct x_)))), (mk, .inl (q 0, 384, .inl (fun x_ => nI (kd x_)))), (m1, .inl (q 0, 384, .inl (fun x_ => nI (on x_)))), (m2, .inl (q 0, 384, .inl (fun x_ => nI (tw x_)))), (ms, .inl (q 0, 1152, .inl se)), (mj, .inl (q 0, 24, .inl (fun x_ => nI ((va_cpy tx sj 0 0 ln) x_)))), (me, .inl (q 0, 3200, .inl u.1)), (mh, .inl (q 0, 25, .inl u.2))] H locs := U.sub [1, 0, 2, 3, 4, 5, 6, 7, 8, 9] (by decide) rfl
        exact kz_ei hQ hA X U u rfl (⟨rfl, hu2⟩) kd_Mo_lookAtText_41
      · refine lv_aload_n hx hb kd_Mo_lookAtText_18 rfl (lv_at hl 1 rfl) ?_
        refine kg_Mo_49 X U 0 rfl rfl kd_Mo_lookAtText_19 ?_
        refine lv_iload_n hx hb kd_Mo_lookAtText_22 rfl (lv_at hl 0 rfl) ?_
        refine lv_aload_n hx hb kd_Mo_lookAtText_23 rfl (lv_at hl 1 rfl) ?_
        refine kg_Mo_13 X U 0 rfl rfl kd_Mo_lookAtText_24 ?_
        refine lv_iload_n hx hb kd_Mo_lookAtText_27 rfl (lv_at hl 0 rfl) ?_
        refine kz_iald (k := i) X U 1 rfl (by omega) (by omega) kd_Mo_lookAtText_28 ?_
        refine kz_top (y := nI (tx i)) rfl ?_
        refine kz_iast (k := i) X U 7 rfl (by omega) (by omega) kd_Mo_lookAtText_29 (fun H locs U => ?_)
        have U : kz_U D q s A [(ho, .inr (6, [.ref mb, .int (nI sz), .ref mt, .int (nI ln), .ref mw, .int (nI wn), .ref mc, .ref mk, .ref m1, .ref m2, .ref ms, .int (nI dp), .ref mu, .ref mi, .ref mr, .ref mn, .ref mp, .int (nI st_), .int lo_, .int (nI im), .int (nB ex), .ref mj, .int (nI ln), .ref me, .ref mh, .int (nB ds)])), (mt, .inl (q 0, 24, .inl (fun x_ => nI (tx x_)))), (mc, .inl (q 0, 3, .inl (fun x_ => nI (ct x_)))), (mk, .inl (q 0, 384, .inl (fun x_ => nI (kd x_)))), (m1, .inl (q 0, 384, .inl (fun x_ => nI (on x_)))), (m2, .inl (q 0, 384, .inl (fun x_ => nI (tw x_)))), (ms, .inl (q 0, 1152, .inl se)), (mj, .inl (q 0, 24, .inl (upd (kz_fl (fun j => nI (tx j)) (fun j => nI (sj j)) i) i (nI (tx i))))), (me, .inl (q 0, 3200, .inl es)), (mh, .inl (q 0, 25, .inl th))] H locs := U
        refine lv_iinc (k := 0) (v := nI (i + 1)) hx hb kd_Mo_lookAtText_30 hl rfl (nI_add i 1) (by decide) rfl (fun ls hl => ?_)
        have hl : lv_has ls 3 [(2, .int (nI (i + 1))), (0, .ref ho), (1, .int (nI p_))] := hl
        refine lv_goto hx hb kd_Mo_lookAtText_33 rfl ?_
        have U : kz_U D q s A [(ho, .inr (6, [.ref mb, .int (nI sz), .ref mt, .int (nI ln), .ref mw, .int (nI wn), .ref mc, .ref mk, .ref m1, .ref m2, .ref ms, .int (nI dp), .ref mu, .ref mi, .ref mr, .ref mn, .ref mp, .int (nI st_), .int lo_, .int (nI im), .int (nB ex), .ref mj, .int (nI ln), .ref me, .ref mh, .int (nB ds)])), (mt, .inl (q 0, 24, .inl (fun x_ => nI (tx x_)))), (mc, .inl (q 0, 3, .inl (fun x_ => nI (ct x_)))), (mk, .inl (q 0, 384, .inl (fun x_ => nI (kd x_)))), (m1, .inl (q 0, 384, .inl (fun x_ => nI (on x_)))), (m2, .inl (q 0, 384, .inl (fun x_ => nI (tw x_)))), (ms, .inl (q 0, 1152, .inl se)), (mj, .inl (q 0, 24, .inl (kz_fl (fun j => nI (tx j)) (fun j => nI (sj j)) (i + 1)))), (me, .inl (q 0, 3200, .inl es)), (mh, .inl (q 0, 25, .inl th))] H locs := by rw [← kz_fl_s (F := fun j => nI (tx j)) (v := nI (tx i)) rfl]; exact U
        exact ih10 (i + 1) _ _ _ (by omega) (by omega) (lv_sub hl [0, 1, 2] rfl) U
  have U : kz_U D q s A [(ho, .inr (6, [.ref mb, .int (nI sz), .ref mt, .int (nI ln), .ref mw, .int (nI wn), .ref mc, .ref mk, .ref m1, .ref m2, .ref ms, .int (nI dp), .ref mu, .ref mi, .ref mr, .ref mn, .ref mp, .int (nI st_), .int lo_, .int (nI im), .int (nB ex), .ref mj, .int (nI ln), .ref me, .ref mh, .int (nB ds)])), (mt, .inl (q 0, 24, .inl (fun x_ => nI (tx x_)))), (mc, .inl (q 0, 3, .inl (fun x_ => nI (ct x_)))), (mk, .inl (q 0, 384, .inl (fun x_ => nI (kd x_)))), (m1, .inl (q 0, 384, .inl (fun x_ => nI (on x_)))), (m2, .inl (q 0, 384, .inl (fun x_ => nI (tw x_)))), (ms, .inl (q 0, 1152, .inl se)), (mj, .inl (q 0, 24, .inl (kz_fl (fun j => nI (tx j)) (fun j => nI (sj j)) 0))), (me, .inl (q 0, 3200, .inl es)), (mh, .inl (q 0, 25, .inl th))] H locs := by rw [kz_fl_0]; exact U
  exact loop10 _ 0 _ _ _ (Nat.lt_succ_self _) (by omega) (lv_sub hl [0, 1, 2] rfl) U
