/-! the copied nodes as the matching has them; what lies outside stays -/
theorem sm_tab {p : Nat} {NL : List md_N} {b : md_B} {kd on tw : Nat → Nat} {se : Nat → Int32} (h : md_cq p NL b kd on tw se NL.length) (hf : md_fi NL) : nd_tab (128 * p) (NL.map sm_n) kd on tw se := by
  obtain ⟨h1, -, h3, -, -⟩ := h
  refine ⟨by rw [List.length_map]; exact h1, fun j hj => ?_, fun j hj => ?_⟩
  · have hj2 : j < NL.length := by rw [List.length_map] at hj; exact hj
    have e : (NL.map sm_n)[j]'hj = sm_n (NL[j]'hj2) := List.getElem_map _
    rw [e]
    exact (hf j hj2).1
  · have hj2 : j < NL.length := by rw [List.length_map] at hj; exact hj
    have e : (NL.map sm_n)[j]'hj = sm_n (NL[j]'hj2) := List.getElem_map _
    obtain ⟨c1, c2, c3, c4⟩ := h3 j hj2 hj2
    rw [e]
    refine ⟨c1, c2, c3, fun z => ?_, fun _ c hc1 hc2 => ?_⟩
    · have e0 := c4 0 (by decide)
      rw [Nat.add_zero] at e0
      rw [e0]
      exact (hf j hj2).2 z
    · show bt (se (3 * (128 * p + j) + (c - 32) / 32)) ((c - 32) % 32) = bt ((NL[j]'hj2).2.2.2 ((c - 32) / 32)) ((c - 32) % 32)
      rw [c4 _ (by omega)]

theorem nd_tab_keep {bs : Nat} {NL : List nd_N} {kd on tw kd' on' tw' : Nat → Nat} {se se' : Nat → Int32} (h : nd_tab bs NL kd on tw se) (h1 : ∀ i, bs ≤ i → i < bs + 128 → kd' i = kd i ∧ on' i = on i ∧ tw' i = tw i) (h2 : ∀ i, 3 * bs ≤ i → i < 3 * bs + 384 → se' i = se i) : nd_tab bs NL kd' on' tw' se' := by
  obtain ⟨a1, a2, a3⟩ := h
  refine ⟨a1, a2, fun j hj => ?_⟩
  obtain ⟨c1, c2, c3, c4, c5⟩ := a3 j hj
  obtain ⟨e1, e2, e3⟩ := h1 (bs + j) (by omega) (by omega)
  rw [e1, e2, e3]
  refine ⟨c1, c2, c3, fun z => ?_, fun z c hc1 hc2 => ?_⟩
  · rw [h2 _ (by omega) (by omega)]
    exact c4 z
  · show bt (se' (3 * (bs + j) + (c - 32) / 32)) ((c - 32) % 32) = _
    rw [h2 _ (by omega) (by omega)]
    exact c5 z c hc1 hc2

theorem nd_tab_cq {p o : Nat} (hp : p ≤ 1) (ho : o ≤ 1) (hpo : o ≠ p) {NL : List md_N} {ML : List nd_N} {kd on tw kd' on' tw' : Nat → Nat} {se se' : Nat → Int32} {k : Nat} (h : md_cq p NL (kd, on, tw, se) kd' on' tw' se' k) (ht : nd_tab (128 * o) ML kd on tw se) : nd_tab (128 * o) ML kd' on' tw' se' :=
  nd_tab_keep ht (fun i h1 h2 => h.2.2.2.1 i (by omega) (by omega)) (fun i h1 h2 => h.2.2.2.2 i (by omega) (by omega))

theorem nd_tab_T {o : Nat} (ho : o ≤ 1) {NL : List md_N} {ML : List nd_N} {kd on tw kd' on' tw' : Nat → Nat} {se se' : Nat → Int32} (h : md_T NL (kd, on, tw, se) kd' on' tw' se') (ht : nd_tab (128 * o) ML kd on tw se) : nd_tab (128 * o) ML kd' on' tw' se' :=
  nd_tab_keep ht (fun i h1 h2 => h.2.2.1 i (by omega)) (fun i h1 h2 => h.2.2.2 i (by omega))

theorem sm_G_map (NL : List md_N) : sm_G NL (NL.length - 1) = (nd_all (NL.map sm_n)).getD ((NL.map sm_n).length - 1) dm_eps := by
  rw [List.length_map]
  rfl
