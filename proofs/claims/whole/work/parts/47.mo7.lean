/-- a language as a test -/
noncomputable def sp_cl (B : dm_L) (w : List Nat) : Bool := @decide (B w) (Classical.propDecidable _)
theorem sp_cl_t {B : dm_L} {w : List Nat} : sp_cl B w = true ↔ B w := by
  unfold sp_cl
  exact @decide_eq_true_iff (B w) (Classical.propDecidable _)
/-- the words of n letters in the order of the alphabet -/
def wd_b : Nat → Nat → List Nat
  | 0, _ => []
  | n + 1, w => wd_b n (w / 3) ++ [97 + w % 3]
theorem wd_b_len : ∀ n w, (wd_b n w).length = n
  | 0, _ => rfl
  | n + 1, w => by show (wd_b n (w / 3) ++ [_]).length = _; rw [List.length_append, wd_b_len n]; rfl
theorem wd_b_lt {n w j : Nat} (h : j < n) : (wd_b (n + 1) w).getD j 0 = (wd_b n (w / 3)).getD j 0 := by
  show (wd_b n (w / 3) ++ [97 + w % 3]).getD j 0 = _
  rw [List.getD_eq_getElem?_getD, List.getD_eq_getElem?_getD, List.getElem?_append_left (by rw [wd_b_len]; exact h)]
theorem wd_b_last (n w : Nat) : (wd_b (n + 1) w).getD n 0 = 97 + w % 3 := by
  show (wd_b n (w / 3) ++ [97 + w % 3]).getD n 0 = _
  rw [List.getD_eq_getElem?_getD, List.getElem?_append_right (by rw [wd_b_len]; omega), wd_b_len, Nat.sub_self]
  rfl
theorem wd_b_cut {t : Nat → Nat} {n w : Nat} (h : ∀ j, j < n → t j = (wd_b n w).getD j 0) : dm_cut t 0 n = wd_b n w := by
  apply List.ext_getElem
  · rw [dm_cut_len, wd_b_len]
  · intro j h1 h2
    have hj : j < n := by rw [dm_cut_len] at h1; exact h1
    have e1 : (dm_cut t 0 n)[j] = t j := by simp [dm_cut]
    rw [e1, h j hj, List.getD_eq_getElem?_getD, List.getElem?_eq_getElem h2]
    rfl
theorem wd_b_in : ∀ (n w j : Nat), j < n → 97 ≤ (wd_b n w).getD j 0 ∧ (wd_b n w).getD j 0 ≤ 99
  | n + 1, w, j, h => by
    by_cases e : j = n
    · rw [e, wd_b_last]; omega
    · rw [wd_b_lt (by omega)]; exact wd_b_in n (w / 3) j (by omega)
def sp_o : Option Nat → Nat
  | none => 0
  | some w => w + 1
theorem i32_01 {x : Int32} (h1 : ¬ x < 0) (h2 : x ≤ nI 1) : x = 0 ∨ x = 1 := by
  obtain ⟨j, hj, e⟩ := nI_of2 (M := nI 1) (n := 1) (by decide) h1 h2
  subst e
  rcases (show j = 0 ∨ j = 1 by omega) with rfl | rfl
  · exact Or.inl rfl
  · exact Or.inr rfl

set_option maxHeartbeats 4000000 in
set_option maxRecDepth 100000 in
theorem cm_Mo_matches_bad (l : Launch) (D : va_G) (q : Nat → ClassId) (ho mb mt mw mc mk m1 m2 ms mu mi mr mn mp mj me mh : Nat) (sz ln wn dp st_ im en : Nat) (lo_ : Int32) (ex ds : Bool) (x : Int32) (hx_ : ¬ (x = 0 ∨ x = 1)) : kz_Mi (S := Unit) l ky_Mo_matches kb_Mo_matches 3 (some .boolean) 0 D q [.ref ho, .int x] [(ho, .inr (6, [.ref mb, .int (nI sz), .ref mt, .int (nI ln), .ref mw, .int (nI wn), .ref mc, .ref mk, .ref m1, .ref m2, .ref ms, .int (nI dp), .ref mu, .ref mi, .ref mr, .ref mn, .ref mp, .int (nI st_), .int lo_, .int (nI im), .int (nB ex), .ref mj, .int (nI en), .ref me, .ref mh, .int (nB ds)]))] (fun r _ => r = nB false) (fun _ => [(ho, .inr (6, [.ref mb, .int (nI sz), .ref mt, .int (nI ln), .ref mw, .int (nI wn), .ref mc, .ref mk, .ref m1, .ref m2, .ref ms, .int (nI dp), .ref mu, .ref mi, .ref mr, .ref mn, .ref mp, .int (nI st_), .int lo_, .int (nI im), .int (nB ex), .ref mj, .int (nI en), .ref me, .ref mh, .int (nB ds)]))]) := by
  intro sz_
  refine kz_go (by decide +kernel) (Nat.le_of_ble_eq_true rfl) ?_
  intro p e s m below meth c ls args A Q H locs hQ hA X U hl
  have hx := X.1
  have hb := X.2.1
  have hl : lv_has ls 3 [(0, .ref ho), (1, .int x)] := hl
  refine lv_iload_n hx hb kd_Mo_matches_0 rfl (lv_at hl 1 rfl) ?_
  refine lv_if_lt hx hb kd_Mo_matches_1 rfl (fun h1 => ?_) (fun h1 => ?_)
  · refine kz_ic X 0 kd_Mo_matches_9 (by decide) ?_
    refine kz_top (y := nB false) rfl ?_
    exact kz_ez hQ hA X U (()) rfl (rfl) kd_Mo_matches_10
  · refine lv_iload_n hx hb kd_Mo_matches_4 rfl (lv_at hl 1 rfl) ?_
    refine kz_ic X 1 kd_Mo_matches_5 (by decide) ?_
    refine lv_icmp_le hx hb kd_Mo_matches_6 rfl (fun h6 => absurd h6 (fun z => hx_ (i32_01 h1 z))) (fun h6 => ?_)
    refine kz_ic X 0 kd_Mo_matches_9 (by decide) ?_
    refine kz_top (y := nB false) rfl ?_
    exact kz_ez hQ hA X U (()) rfl (rfl) kd_Mo_matches_10

set_option maxHeartbeats 4000000 in
set_option maxRecDepth 100000 in
theorem cm_Mo_count_bad (l : Launch) (D : va_G) (q : Nat → ClassId) (ho mb mt mw mc mk m1 m2 ms mu mi mr mn mp mj me mh : Nat) (sz ln wn dp st_ im en : Nat) (lo_ : Int32) (ex ds : Bool) (x : Int32) (hx_ : ¬ (x = 0 ∨ x = 1)) : kz_Mi (S := Unit) l ky_Mo_count kb_Mo_count 6 (some .int) 0 D q [.ref ho, .int x] [(ho, .inr (6, [.ref mb, .int (nI sz), .ref mt, .int (nI ln), .ref mw, .int (nI wn), .ref mc, .ref mk, .ref m1, .ref m2, .ref ms, .int (nI dp), .ref mu, .ref mi, .ref mr, .ref mn, .ref mp, .int (nI st_), .int lo_, .int (nI im), .int (nB ex), .ref mj, .int (nI en), .ref me, .ref mh, .int (nB ds)]))] (fun r _ => r = -1) (fun _ => [(ho, .inr (6, [.ref mb, .int (nI sz), .ref mt, .int (nI ln), .ref mw, .int (nI wn), .ref mc, .ref mk, .ref m1, .ref m2, .ref ms, .int (nI dp), .ref mu, .ref mi, .ref mr, .ref mn, .ref mp, .int (nI st_), .int lo_, .int (nI im), .int (nB ex), .ref mj, .int (nI en), .ref me, .ref mh, .int (nB ds)]))]) := by
  intro sz_
  refine kz_go (by decide +kernel) (Nat.le_of_ble_eq_true rfl) ?_
  intro p e s m below meth c ls args A Q H locs hQ hA X U hl
  have hx := X.1
  have hb := X.2.1
  have hl : lv_has ls 6 [(0, .ref ho), (1, .int x)] := hl
  refine lv_iload_n hx hb kd_Mo_count_0 rfl (lv_at hl 1 rfl) ?_
  refine lv_if_lt hx hb kd_Mo_count_1 rfl (fun h1 => ?_) (fun h1 => ?_)
  · refine lv_iconst (v := (-1)) hx hb kd_Mo_count_9 (by decide) ?_
    exact kz_ei hQ hA X U (()) rfl (rfl) kd_Mo_count_10
  · refine lv_iload_n hx hb kd_Mo_count_4 rfl (lv_at hl 1 rfl) ?_
    refine kz_ic X 1 kd_Mo_count_5 (by decide) ?_
    refine lv_icmp_le hx hb kd_Mo_count_6 rfl (fun h6 => absurd h6 (fun z => hx_ (i32_01 h1 z))) (fun h6 => ?_)
    refine lv_iconst (v := (-1)) hx hb kd_Mo_count_9 (by decide) ?_
    exact kz_ei hQ hA X U (()) rfl (rfl) kd_Mo_count_10

set_option maxHeartbeats 4000000 in
set_option maxRecDepth 100000 in
theorem cm_Mo_earliest_bad (l : Launch) (D : va_G) (q : Nat → ClassId) (ho mb mt mw mc mk m1 m2 ms mu mi mr mn mp mj me mh : Nat) (sz ln wn dp st_ im en : Nat) (lo_ : Int32) (ex ds : Bool) (x : Int32) (hx_ : ¬ (x = 0 ∨ x = 1)) : kz_Mi (S := Unit) l ky_Mo_earliest kb_Mo_earliest 5 (some .int) 0 D q [.ref ho, .int x] [(ho, .inr (6, [.ref mb, .int (nI sz), .ref mt, .int (nI ln), .ref mw, .int (nI wn), .ref mc, .ref mk, .ref m1, .ref m2, .ref ms, .int (nI dp), .ref mu, .ref mi, .ref mr, .ref mn, .ref mp, .int (nI st_), .int lo_, .int (nI im), .int (nB ex), .ref mj, .int (nI en), .ref me, .ref mh, .int (nB ds)]))] (fun r _ => r = -1) (fun _ => [(ho, .inr (6, [.ref mb, .int (nI sz), .ref mt, .int (nI ln), .ref mw, .int (nI wn), .ref mc, .ref mk, .ref m1, .ref m2, .ref ms, .int (nI dp), .ref mu, .ref mi, .ref mr, .ref mn, .ref mp, .int (nI st_), .int lo_, .int (nI im), .int (nB ex), .ref mj, .int (nI en), .ref me, .ref mh, .int (nB ds)]))]) := by
  intro sz_
  refine kz_go (by decide +kernel) (Nat.le_of_ble_eq_true rfl) ?_
  intro p e s m below meth c ls args A Q H locs hQ hA X U hl
  have hx := X.1
  have hb := X.2.1
  have hl : lv_has ls 5 [(0, .ref ho), (1, .int x)] := hl
  refine lv_iload_n hx hb kd_Mo_earliest_0 rfl (lv_at hl 1 rfl) ?_
  refine lv_if_lt hx hb kd_Mo_earliest_1 rfl (fun h1 => ?_) (fun h1 => ?_)
  · refine lv_iconst (v := (-1)) hx hb kd_Mo_earliest_9 (by decide) ?_
    exact kz_ei hQ hA X U (()) rfl (rfl) kd_Mo_earliest_10
  · refine lv_iload_n hx hb kd_Mo_earliest_4 rfl (lv_at hl 1 rfl) ?_
    refine kz_ic X 1 kd_Mo_earliest_5 (by decide) ?_
    refine lv_icmp_le hx hb kd_Mo_earliest_6 rfl (fun h6 => absurd h6 (fun z => hx_ (i32_01 h1 z))) (fun h6 => ?_)
    refine lv_iconst (v := (-1)) hx hb kd_Mo_earliest_9 (by decide) ?_
    exact kz_ei hQ hA X U (()) rfl (rfl) kd_Mo_earliest_10

set_option maxHeartbeats 4000000 in
set_option maxRecDepth 100000 in
theorem cm_Mo_pattern_bad (l : Launch) (D : va_G) (q : Nat → ClassId) (ho mb mt mw mc mk m1 m2 ms mu mi mr mn mp mj me mh : Nat) (sz ln wn dp st_ im en : Nat) (lo_ : Int32) (ex ds : Bool) (x : Int32) (hx_ : ¬ (x = 0 ∨ x = 1)) : kz_Mi (S := Unit) l ky_Mo_pattern kb_Mo_pattern 6 (some .int) 0 D q [.ref ho, .int x] [(ho, .inr (6, [.ref mb, .int (nI sz), .ref mt, .int (nI ln), .ref mw, .int (nI wn), .ref mc, .ref mk, .ref m1, .ref m2, .ref ms, .int (nI dp), .ref mu, .ref mi, .ref mr, .ref mn, .ref mp, .int (nI st_), .int lo_, .int (nI im), .int (nB ex), .ref mj, .int (nI en), .ref me, .ref mh, .int (nB ds)]))] (fun r _ => r = -1) (fun _ => [(ho, .inr (6, [.ref mb, .int (nI sz), .ref mt, .int (nI ln), .ref mw, .int (nI wn), .ref mc, .ref mk, .ref m1, .ref m2, .ref ms, .int (nI dp), .ref mu, .ref mi, .ref mr, .ref mn, .ref mp, .int (nI st_), .int lo_, .int (nI im), .int (nB ex), .ref mj, .int (nI en), .ref me, .ref mh, .int (nB ds)]))]) := by
  intro sz_
  refine kz_go (by decide +kernel) (Nat.le_of_ble_eq_true rfl) ?_
  intro p e s m below meth c ls args A Q H locs hQ hA X U hl
  have hx := X.1
  have hb := X.2.1
  have hl : lv_has ls 6 [(0, .ref ho), (1, .int x)] := hl
  refine lv_iload_n hx hb kd_Mo_pattern_0 rfl (lv_at hl 1 rfl) ?_
  refine lv_if_lt hx hb kd_Mo_pattern_1 rfl (fun h1 => ?_) (fun h1 => ?_)
  · refine lv_iconst (v := (-1)) hx hb kd_Mo_pattern_9 (by decide) ?_
    exact kz_ei hQ hA X U (()) rfl (rfl) kd_Mo_pattern_10
  · refine lv_iload_n hx hb kd_Mo_pattern_4 rfl (lv_at hl 1 rfl) ?_
    refine kz_ic X 1 kd_Mo_pattern_5 (by decide) ?_
    refine lv_icmp_le hx hb kd_Mo_pattern_6 rfl (fun h6 => absurd h6 (fun z => hx_ (i32_01 h1 z))) (fun h6 => ?_)
    refine lv_iconst (v := (-1)) hx hb kd_Mo_pattern_9 (by decide) ?_
    exact kz_ei hQ hA X U (()) rfl (rfl) kd_Mo_pattern_10

set_option maxHeartbeats 4000000 in
set_option maxRecDepth 100000 in
theorem cm_Mo_find_bad (l : Launch) (D : va_G) (q : Nat → ClassId) (ho mb mt mw mc mk m1 m2 ms mu mi mr mn mp mj me mh : Nat) (sz ln wn dp st_ im en : Nat) (lo_ : Int32) (ex ds : Bool) (x y : Int32) (hx_ : ¬ (x = 0 ∨ x = 1) ∨ y < 0 ∨ nI ln < y) : kz_Mi (S := Unit) l ky_Mo_find kb_Mo_find 3 (some .int) 0 D q [.ref ho, .int x, .int y] [(ho, .inr (6, [.ref mb, .int (nI sz), .ref mt, .int (nI ln), .ref mw, .int (nI wn), .ref mc, .ref mk, .ref m1, .ref m2, .ref ms, .int (nI dp), .ref mu, .ref mi, .ref mr, .ref mn, .ref mp, .int (nI st_), .int lo_, .int (nI im), .int (nB ex), .ref mj, .int (nI en), .ref me, .ref mh, .int (nB ds)]))] (fun r _ => r = -1) (fun _ => [(ho, .inr (6, [.ref mb, .int (nI sz), .ref mt, .int (nI ln), .ref mw, .int (nI wn), .ref mc, .ref mk, .ref m1, .ref m2, .ref ms, .int (nI dp), .ref mu, .ref mi, .ref mr, .ref mn, .ref mp, .int (nI st_), .int lo_, .int (nI im), .int (nB ex), .ref mj, .int (nI en), .ref me, .ref mh, .int (nB ds)]))]) := by
  intro sz_
  refine kz_go (by decide +kernel) (Nat.le_of_ble_eq_true rfl) ?_
  intro p e s m below meth c ls args A Q H locs hQ hA X U hl
  have hx := X.1
  have hb := X.2.1
  have hl : lv_has ls 3 [(0, .ref ho), (1, .int x), (2, .int y)] := hl
  refine lv_iload_n hx hb kd_Mo_find_0 rfl (lv_at hl 1 rfl) ?_
  refine lv_if_lt hx hb kd_Mo_find_1 rfl (fun h1 => ?_) (fun h1 => ?_)
  · refine lv_iconst (v := (-1)) hx hb kd_Mo_find_21 (by decide) ?_
    exact kz_ei hQ hA X U (()) rfl (rfl) kd_Mo_find_22
  · refine lv_iload_n hx hb kd_Mo_find_4 rfl (lv_at hl 1 rfl) ?_
    refine kz_ic X 1 kd_Mo_find_5 (by decide) ?_
    refine lv_icmp_gt hx hb kd_Mo_find_6 rfl (fun h6 => ?_) (fun h6 => ?_)
    · refine lv_iconst (v := (-1)) hx hb kd_Mo_find_21 (by decide) ?_
      exact kz_ei hQ hA X U (()) rfl (rfl) kd_Mo_find_22
    · refine lv_iload_n hx hb kd_Mo_find_9 rfl (lv_at hl 2 rfl) ?_
      refine lv_if_lt hx hb kd_Mo_find_10 rfl (fun h10 => ?_) (fun h10 => ?_)
      · refine lv_iconst (v := (-1)) hx hb kd_Mo_find_21 (by decide) ?_
        exact kz_ei hQ hA X U (()) rfl (rfl) kd_Mo_find_22
      · refine lv_iload_n hx hb kd_Mo_find_13 rfl (lv_at hl 2 rfl) ?_
        refine lv_aload_n hx hb kd_Mo_find_14 rfl (lv_at hl 0 rfl) ?_
        refine kg_Mo_139 X U 0 rfl rfl kd_Mo_find_15 ?_
        refine lv_icmp_le hx hb kd_Mo_find_18 rfl (fun h18 => absurd h18 (fun z => hx_.elim (fun a => a (i32_01 h1 (Int32.not_lt.mp h6))) (fun a => a.elim h10 (fun b => absurd z (Int32.not_le.mpr b))))) (fun h18 => ?_)
        refine lv_iconst (v := (-1)) hx hb kd_Mo_find_21 (by decide) ?_
        exact kz_ei hQ hA X U (()) rfl (rfl) kd_Mo_find_22

set_option maxHeartbeats 4000000 in
set_option maxRecDepth 100000 in
theorem cm_Mo_shortest_bad (l : Launch) (D : va_G) (q : Nat → ClassId) (ho mb mt mw mc mk m1 m2 ms mu mi mr mn mp mj me mh : Nat) (sz ln wn dp st_ im en : Nat) (lo_ : Int32) (ex ds : Bool) (x y : Int32) (hx_ : ¬ (x = 0 ∨ x = 1) ∨ y < 0 ∨ 4 < y) : kz_Mi (S := Unit) l ky_Mo_shortest kb_Mo_shortest 3 (some .int) 0 D q [.ref ho, .int x, .int y] [(ho, .inr (6, [.ref mb, .int (nI sz), .ref mt, .int (nI ln), .ref mw, .int (nI wn), .ref mc, .ref mk, .ref m1, .ref m2, .ref ms, .int (nI dp), .ref mu, .ref mi, .ref mr, .ref mn, .ref mp, .int (nI st_), .int lo_, .int (nI im), .int (nB ex), .ref mj, .int (nI en), .ref me, .ref mh, .int (nB ds)]))] (fun r _ => r = -1) (fun _ => [(ho, .inr (6, [.ref mb, .int (nI sz), .ref mt, .int (nI ln), .ref mw, .int (nI wn), .ref mc, .ref mk, .ref m1, .ref m2, .ref ms, .int (nI dp), .ref mu, .ref mi, .ref mr, .ref mn, .ref mp, .int (nI st_), .int lo_, .int (nI im), .int (nB ex), .ref mj, .int (nI en), .ref me, .ref mh, .int (nB ds)]))]) := by
  intro sz_
  refine kz_go (by decide +kernel) (Nat.le_of_ble_eq_true rfl) ?_
  intro p e s m below meth c ls args A Q H locs hQ hA X U hl
  have hx := X.1
  have hb := X.2.1
  have hl : lv_has ls 3 [(0, .ref ho), (1, .int x), (2, .int y)] := hl
  refine lv_iload_n hx hb kd_Mo_shortest_0 rfl (lv_at hl 1 rfl) ?_
  refine lv_if_lt hx hb kd_Mo_shortest_1 rfl (fun h1 => ?_) (fun h1 => ?_)
  · refine lv_iconst (v := (-1)) hx hb kd_Mo_shortest_18 (by decide) ?_
    refine lv_goto hx hb kd_Mo_shortest_19 rfl ?_
    exact kz_ei hQ hA X U (()) rfl (rfl) kd_Mo_shortest_28
  · refine lv_iload_n hx hb kd_Mo_shortest_4 rfl (lv_at hl 1 rfl) ?_
    refine kz_ic X 1 kd_Mo_shortest_5 (by decide) ?_
    refine lv_icmp_gt hx hb kd_Mo_shortest_6 rfl (fun h6 => ?_) (fun h6 => ?_)
    · refine lv_iconst (v := (-1)) hx hb kd_Mo_shortest_18 (by decide) ?_
      refine lv_goto hx hb kd_Mo_shortest_19 rfl ?_
      exact kz_ei hQ hA X U (()) rfl (rfl) kd_Mo_shortest_28
    · refine lv_iload_n hx hb kd_Mo_shortest_9 rfl (lv_at hl 2 rfl) ?_
      refine lv_if_lt hx hb kd_Mo_shortest_10 rfl (fun h10 => ?_) (fun h10 => ?_)
      · refine lv_iconst (v := (-1)) hx hb kd_Mo_shortest_18 (by decide) ?_
        refine lv_goto hx hb kd_Mo_shortest_19 rfl ?_
        exact kz_ei hQ hA X U (()) rfl (rfl) kd_Mo_shortest_28
      · refine lv_iload_n hx hb kd_Mo_shortest_13 rfl (lv_at hl 2 rfl) ?_
        refine kz_ic X 4 kd_Mo_shortest_14 (by decide) ?_
        refine lv_icmp_le hx hb kd_Mo_shortest_15 rfl (fun h15 => absurd h15 (fun z => hx_.elim (fun a => a (i32_01 h1 (Int32.not_lt.mp h6))) (fun a => a.elim h10 (fun b => absurd z (Int32.not_le.mpr b))))) (fun h15 => ?_)
        refine lv_iconst (v := (-1)) hx hb kd_Mo_shortest_18 (by decide) ?_
        refine lv_goto hx hb kd_Mo_shortest_19 rfl ?_
        exact kz_ei hQ hA X U (()) rfl (rfl) kd_Mo_shortest_28

set_option maxHeartbeats 4000000 in
set_option maxRecDepth 100000 in
theorem cm_Mo_difference_bad (l : Launch) (D : va_G) (q : Nat → ClassId) (ho mb mt mw mc mk m1 m2 ms mu mi mr mn mp mj me mh : Nat) (sz ln wn dp st_ im en : Nat) (lo_ : Int32) (ex ds : Bool) (y : Int32) (hx_ : y < 0 ∨ 4 < y) : kz_Mi (S := Unit) l ky_Mo_difference kb_Mo_difference 2 (some .int) 0 D q [.ref ho, .int y] [(ho, .inr (6, [.ref mb, .int (nI sz), .ref mt, .int (nI ln), .ref mw, .int (nI wn), .ref mc, .ref mk, .ref m1, .ref m2, .ref ms, .int (nI dp), .ref mu, .ref mi, .ref mr, .ref mn, .ref mp, .int (nI st_), .int lo_, .int (nI im), .int (nB ex), .ref mj, .int (nI en), .ref me, .ref mh, .int (nB ds)]))] (fun r _ => r = -1) (fun _ => [(ho, .inr (6, [.ref mb, .int (nI sz), .ref mt, .int (nI ln), .ref mw, .int (nI wn), .ref mc, .ref mk, .ref m1, .ref m2, .ref ms, .int (nI dp), .ref mu, .ref mi, .ref mr, .ref mn, .ref mp, .int (nI st_), .int lo_, .int (nI im), .int (nB ex), .ref mj, .int (nI en), .ref me, .ref mh, .int (nB ds)]))]) := by
  intro sz_
  refine kz_go (by decide +kernel) (Nat.le_of_ble_eq_true rfl) ?_
  intro p e s m below meth c ls args A Q H locs hQ hA X U hl
  have hx := X.1
  have hb := X.2.1
  have hl : lv_has ls 2 [(0, .ref ho), (1, .int y)] := hl
  refine lv_iload_n hx hb kd_Mo_difference_0 rfl (lv_at hl 1 rfl) ?_
  refine lv_if_lt hx hb kd_Mo_difference_1 rfl (fun h1 => ?_) (fun h1 => ?_)
  · refine lv_iconst (v := (-1)) hx hb kd_Mo_difference_9 (by decide) ?_
    refine lv_goto hx hb kd_Mo_difference_10 rfl ?_
    exact kz_ei hQ hA X U (()) rfl (rfl) kd_Mo_difference_19
  · refine lv_iload_n hx hb kd_Mo_difference_4 rfl (lv_at hl 1 rfl) ?_
    refine kz_ic X 4 kd_Mo_difference_5 (by decide) ?_
    refine lv_icmp_le hx hb kd_Mo_difference_6 rfl (fun h6 => absurd h6 (fun z => hx_.elim h1 (fun b => absurd z (Int32.not_le.mpr b)))) (fun h6 => ?_)
    refine lv_iconst (v := (-1)) hx hb kd_Mo_difference_9 (by decide) ?_
    refine lv_goto hx hb kd_Mo_difference_10 rfl ?_
    exact kz_ei hQ hA X U (()) rfl (rfl) kd_Mo_difference_19

set_option maxHeartbeats 4000000 in
set_option maxRecDepth 100000 in
theorem cm_Mo_fits (l : Launch) (D : va_G) (q : Nat → ClassId) (ho mb mt mw mc mk m1 m2 ms mu mi mr mn mp mj me mh : Nat) (sz ln wn dp st_ im en : Nat) (lo_ : Int32) (ex ds : Bool) (p_ : Nat) (t ct kd on tw : Nat → Nat) (NL : List nd_N) (se es th : Nat → Int32) (hp_ : p_ ≤ 1) (hen : en ≤ 24) (hct : ct p_ = NL.length) (hN1 : 0 < NL.length) (htab : nd_tab (128 * p_) NL kd on tw se) (htc : ∀ j, j < en → 32 ≤ t j ∧ t j < 128) : kz_Mi (S := (Nat → Int32) × (Nat → Int32)) l ky_Mo_fits kb_Mo_fits 2 (some .boolean) 4 D q [.ref ho, .int (nI p_)] [(ho, .inr (6, [.ref mb, .int (nI sz), .ref mt, .int (nI ln), .ref mw, .int (nI wn), .ref mc, .ref mk, .ref m1, .ref m2, .ref ms, .int (nI dp), .ref mu, .ref mi, .ref mr, .ref mn, .ref mp, .int (nI st_), .int lo_, .int (nI im), .int (nB ex), .ref mj, .int (nI en), .ref me, .ref mh, .int (nB ds)])), (mc, .inl (q 0, 3, .inl (fun x_ => nI (ct x_)))), (mk, .inl (q 0, 384, .inl (fun x_ => nI (kd x_)))), (m1, .inl (q 0, 384, .inl (fun x_ => nI (on x_)))), (m2, .inl (q 0, 384, .inl (fun x_ => nI (tw x_)))), (ms, .inl (q 0, 1152, .inl se)), (mj, .inl (q 0, 24, .inl (fun x_ => nI (t x_)))), (me, .inl (q 0, 3200, .inl es)), (mh, .inl (q 0, 25, .inl th))] (fun r _ => r = nB (sp_cl ((nd_all NL).getD (NL.length - 1) dm_eps) (dm_cut t 0 en))) (fun u => [(ho, .inr (6, [.ref mb, .int (nI sz), .ref mt, .int (nI ln), .ref mw, .int (nI wn), .ref mc, .ref mk, .ref m1, .ref m2, .ref ms, .int (nI dp), .ref mu, .ref mi, .ref mr, .ref mn, .ref mp, .int (nI st_), .int lo_, .int (nI im), .int (nB ex), .ref mj, .int (nI en), .ref me, .ref mh, .int (nB ds)])), (mc, .inl (q 0, 3, .inl (fun x_ => nI (ct x_)))), (mk, .inl (q 0, 384, .inl (fun x_ => nI (kd x_)))), (m1, .inl (q 0, 384, .inl (fun x_ => nI (on x_)))), (m2, .inl (q 0, 384, .inl (fun x_ => nI (tw x_)))), (ms, .inl (q 0, 1152, .inl se)), (mj, .inl (q 0, 24, .inl (fun x_ => nI (t x_)))), (me, .inl (q 0, 3200, .inl u.1)), (mh, .inl (q 0, 25, .inl u.2))]) := by
  intro sz_
  refine kz_go (by decide +kernel) (Nat.le_of_ble_eq_true rfl) ?_
  intro p e s m below meth c ls args A Q H locs hQ hA X U hl
  have hx := X.1
  have hb := X.2.1
  have hl : lv_has ls 2 [(0, .ref ho), (1, .int (nI p_))] := hl
  have hN128 := htab.1
  refine lv_aload_n hx hb kd_Mo_fits_0 rfl (lv_at hl 0 rfl) ?_
  refine kg_Mo_52 X U 0 rfl rfl kd_Mo_fits_1 ?_
  refine lv_aload_n hx hb kd_Mo_fits_4 rfl (lv_at hl 0 rfl) ?_
  refine lv_iload_n hx hb kd_Mo_fits_5 rfl (lv_at hl 1 rfl) ?_
  refine kz_cVi (av := [.int (nI p_)]) (rest := [.ref me]) (wr := []) X U hl.1 (cm_Mo_look l D q ho mb mt mw mc mk m1 m2 ms mu mi mr mn mp mj me mh sz ln wn dp st_ im en lo_ ex ds p_ t ct kd on tw NL se es th hp_ hen hct hN1 htab htc) (by decide) (by decide) ⟨by decide, by decide⟩ tb_602 tb_604 tb_s37 0 rfl rfl tb_11 tb_605 kq_Mo_look [0, 1, 2, 3, 4, 5, 6, 7, 8] [] (by decide) rfl rfl (by decide) (by decide) rfl (Nat.le_of_ble_eq_true rfl) kd_Mo_fits_6 (fun rv u H locs hu U => ?_)
  obtain ⟨hu1, hu2⟩ := hu
  subst hu1
  have hA_ := hu2 (NL.length - 1) (by omega) 0 (by omega) en
  have U : kz_U D q s A [(ho, .inr (6, [.ref mb, .int (nI sz), .ref mt, .int (nI ln), .ref mw, .int (nI wn), .ref mc, .ref mk, .ref m1, .ref m2, .ref ms, .int (nI dp), .ref mu, .ref mi, .ref mr, .ref mn, .ref mp, .int (nI st_), .int lo_, .int (nI im), .int (nB ex), .ref mj, .int (nI en), .ref me, .ref mh, .int (nB ds)])), (mc, .inl (q 0, 3, .inl (fun x_ => nI (ct x_)))), (mk, .inl (q 0, 384, .inl (fun x_ => nI (kd x_)))), (m1, .inl (q 0, 384, .inl (fun x_ => nI (on x_)))), (m2, .inl (q 0, 384, .inl (fun x_ => nI (tw x_)))), (ms, .inl (q 0, 1152, .inl se)), (mj, .inl (q 0, 24, .inl (fun x_ => nI (t x_)))), (me, .inl (q 0, 3200, .inl u.1)), (mh, .inl (q 0, 25, .inl u.2))] H locs := U
  refine kz_iald (k := 25 * (NL.length - 1)) X U 7 rfl (by omega) (by omega) kd_Mo_fits_9 ?_
  refine lv_aload_n hx hb kd_Mo_fits_10 rfl (lv_at hl 0 rfl) ?_
  refine kg_Mo_142 X U 0 rfl rfl kd_Mo_fits_11 ?_
  refine lv_ishr hx hb kd_Mo_fits_14 ?_
  refine kz_ic X 1 kd_Mo_fits_15 (by decide) ?_
  refine lv_iand hx hb kd_Mo_fits_16 ?_
  refine kz_top (y := nB (sp_cl ((nd_all NL).getD (NL.length - 1) dm_eps) (dm_cut t 0 en))) (by rw [show sp_cl ((nd_all NL).getD (NL.length - 1) dm_eps) (dm_cut t 0 en) = bt (u.1 (25 * (NL.length - 1))) en from Bool.eq_iff_iff.mpr (by rw [sp_cl_t]; refine (hA_.trans ⟨fun z => z.2.2, fun z => ⟨by omega, by omega, z⟩⟩).symm)]; exact has_v _ (by omega)) ?_
  refine kz_ic X 1 kd_Mo_fits_17 (by decide) ?_
  refine kz_icneB X kd_Mo_fits_18 rfl (fun h18 => ?_) (fun h18 => ?_)
  · refine kz_ic X 0 kd_Mo_fits_25 (by decide) ?_
    refine kz_top (y := nB false) rfl ?_
    exact kz_ez hQ hA X U u rfl (by rw [h18]) kd_Mo_fits_26
  · refine kz_ic X 1 kd_Mo_fits_21 (by decide) ?_
    refine lv_goto hx hb kd_Mo_fits_22 rfl ?_
    refine kz_top (y := nB true) rfl ?_
    exact kz_ez hQ hA X U u rfl (by rw [h18]) kd_Mo_fits_26
