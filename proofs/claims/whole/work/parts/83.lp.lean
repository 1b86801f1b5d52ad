/-! the class and the reference side by side: what a call answers on both, and what stays tied -/
def lw_R (q : Nat → ClassId) (hd ho : Nat) (Wc Wm : va_W) : Prop := ∃ (nb : Nat) (bu bf : Nat → Nat) (n : Nat) (tx ty : Nat → Nat) (B0 B1 L0 L1 : dm_L) (nl : Nat) (le wo : Nat → Nat), lc_I q hd nb bu n tx B0 B1 nl le Wc ∧ lm_I q ho nb bf n ty L0 L1 nl wo Wm ∧ (∀ j, j < nb → bu j = bf j) ∧ (∀ j, j < n → tx j = ty j) ∧ dm_sm B0 L0 ∧ dm_sm B1 L1 ∧ (∀ i, i < nl → le i = wo i)
def lw_2 (l : Launch) (D : va_G) (q : Nat → ClassId) (hd ho : Nat) (Wc Wm : va_W) (y1 : MethodName) (b1 : ByteArray) (n1 : Nat) (y2 : MethodName) (b2 : ByteArray) (n2 : Nat) (t : Option FieldType) (av : List Value) : Prop := ∃ (d1 d2 : Nat) (P1 P2 : Int32 → va_W → Prop), d1 ≤ 7 ∧ d2 ≤ 7 ∧ kz_Mi (S := va_W) l y1 b1 n1 t d1 D q (.ref hd :: av) Wc P1 (fun W => W) ∧ kz_Mi (S := va_W) l y2 b2 n2 t d2 D q (.ref ho :: av) Wm P2 (fun W => W) ∧ ∀ r r' Wc' Wm', P1 r Wc' → P2 r' Wm' → r = r' ∧ lw_R q hd ho Wc' Wm'

theorem lm_I.f {q : Nat → ClassId} {ho sz : Nat} {bf : Nat → Nat} {ln : Nat} {ty : Nat → Nat} {L0 L1 : dm_L} {wn : Nat} {wo : Nat → Nat} {W : va_W} (h : lm_I q ho sz bf ln ty L0 L1 wn wo W) : sz ≤ 40 ∧ (∀ j, j < sz → 32 ≤ bf j ∧ bf j < 127) ∧ ln ≤ 24 ∧ (∀ j, j < ln → 32 ≤ ty j ∧ ty j < 127) ∧ wn ≤ 4 := by
  obtain ⟨v, -, hF⟩ := h
  exact ⟨hF.1, hF.2.1, hF.2.2.1, hF.2.2.2.1, hF.2.2.2.2.1⟩

theorem lp_type {l : Launch} {D : va_G} {q : Nat → ClassId} {hd ho : Nat} {Wc Wm : va_W} (hR : lw_R q hd ho Wc Wm) {ch : Nat} (hch : ch < 65536) : lw_2 l D q hd ho Wc Wm ky_Dm_type kb_Dm_type 2 ky_Mo_type kb_Mo_type 2 (some .boolean) [.int (nI ch)] := by
  obtain ⟨nb, bu, bf, n, tx, ty, B0, B1, L0, L1, nl, le, wo, hI, hJ, r1, r2, r3, r4, r5⟩ := hR
  refine ⟨0, 0, _, _, by decide, by decide, lc_type l D hch hI, lm_type l D hch hJ, fun r r' Wc' Wm' h1 h2 => ?_⟩
  obtain ⟨nb1, bu1, a1, a2, a3⟩ := h1
  obtain ⟨nb2, bf1, c1, c2, c3⟩ := h2
  refine ⟨a3.trans c3.symm, ?_⟩
  by_cases hc : 32 ≤ ch ∧ ch ≤ 126 ∧ nb < 40
  · rw [if_pos hc] at a2 c2
    injection a2 with e1 e2
    injection c2 with e3 e4
    subst e1
    subst e2
    subst e3
    subst e4
    refine ⟨nb + 1, _, _, n, tx, ty, B0, B1, L0, L1, nl, le, wo, a1, c1, fun j hj => ?_, r2, r3, r4, r5⟩
    by_cases ej : j = nb
    · rw [ej, va_up_eq', va_up_eq']
    · rw [va_up_ne' ej, va_up_ne' ej]
      exact r1 j (by omega)
  · rw [if_neg hc] at a2 c2
    injection a2 with e1 e2
    injection c2 with e3 e4
    subst e1
    subst e2
    subst e3
    subst e4
    exact ⟨_, _, _, n, tx, ty, B0, B1, L0, L1, nl, le, wo, a1, c1, r1, r2, r3, r4, r5⟩

theorem lp_text {l : Launch} {D : va_G} {q : Nat → ClassId} {hd ho : Nat} {Wc Wm : va_W} (hR : lw_R q hd ho Wc Wm) : lw_2 l D q hd ho Wc Wm ky_Dm_text kb_Dm_text 1 ky_Mo_text kb_Mo_text 2 (some .int) [] := by
  obtain ⟨nb, bu, bf, n, tx, ty, B0, B1, L0, L1, nl, le, wo, hI, hJ, r1, r2, r3, r4, r5⟩ := hR
  by_cases hn : nb ≤ 24
  · refine ⟨1, 0, _, _, by decide, by decide, lc_text l D hn hI, lm_text l D hn hJ, fun r r' Wc' Wm' h1 h2 => ⟨h1.2.trans h2.2.symm, ?_⟩⟩
    refine ⟨0, bu, bf, nb, _, _, B0, B1, L0, L1, nl, le, wo, h1.1, h2.1, fun j hj => absurd hj (Nat.not_lt_zero _), fun j hj => ?_, r3, r4, r5⟩
    rw [va_cpy_in hj, va_cpy_in hj]
    exact r1 j hj
  · exact ⟨0, 0, _, _, by decide, by decide, lc_text_bad l D (by omega) hI, lm_text_bad l D (by omega) hJ, fun r r' Wc' Wm' h1 h2 => ⟨h1.2.trans h2.2.symm, ⟨nb, bu, bf, n, tx, ty, B0, B1, L0, L1, nl, le, wo, h1.1, h2.1, r1, r2, r3, r4, r5⟩⟩⟩

theorem lp_matches {l : Launch} {D : va_G} {q : Nat → ClassId} {hd ho : Nat} {Wc Wm : va_W} (hR : lw_R q hd ho Wc Wm) (x : Int32) : lw_2 l D q hd ho Wc Wm ky_Dm_matches kb_Dm_matches 2 ky_Mo_matches kb_Mo_matches 3 (some .boolean) [.int x] := by
  obtain ⟨nb, bu, bf, n, tx, ty, B0, B1, L0, L1, nl, le, wo, hI, hJ, r1, r2, r3, r4, r5⟩ := hR
  obtain ⟨f1, f2, f3, f4, f5⟩ := hJ.f
  by_cases x0 : x = 0
  · subst x0
    refine ⟨7, 5, _, _, by decide, by decide, lc_matches_0 l D hI, lm_matches_0 l D hJ, fun r r' Wc' Wm' h1 h2 => ?_⟩
    obtain ⟨i1, f, a1, a2⟩ := h1
    obtain ⟨i2, t, g, at_, c1, c2, c3⟩ := h2
    have G := eq_tab f3 r3 (fun j hj => ⟨(r2 j hj).trans (c1 j hj).symm, by rw [r2 j hj]; exact f4 j hj⟩) a1 c2
    exact ⟨by rw [a2, c3]; exact congrArg nB (G 0 n (Nat.zero_le _)), ⟨nb, bu, bf, n, tx, ty, B0, B1, L0, L1, nl, le, wo, i1, i2, r1, r2, r3, r4, r5⟩⟩
  by_cases x1 : x = 1
  · subst x1
    refine ⟨7, 5, _, _, by decide, by decide, lc_matches_1 l D hI, lm_matches_1 l D hJ, fun r r' Wc' Wm' h1 h2 => ?_⟩
    obtain ⟨i1, f, a1, a2⟩ := h1
    obtain ⟨i2, t, g, at_, c1, c2, c3⟩ := h2
    have G := eq_tab f3 r4 (fun j hj => ⟨(r2 j hj).trans (c1 j hj).symm, by rw [r2 j hj]; exact f4 j hj⟩) a1 c2
    exact ⟨by rw [a2, c3]; exact congrArg nB (G 0 n (Nat.zero_le _)), ⟨nb, bu, bf, n, tx, ty, B0, B1, L0, L1, nl, le, wo, i1, i2, r1, r2, r3, r4, r5⟩⟩
  have hx : ¬ (x = 0 ∨ x = 1) := fun z => z.elim x0 x1
  exact ⟨1, 0, _, _, by decide, by decide, lc_matches_bad l D hx hI, lm_matches_bad l D hx hJ, fun r r' Wc' Wm' h1 h2 => ⟨h1.2.trans h2.2.symm, ⟨nb, bu, bf, n, tx, ty, B0, B1, L0, L1, nl, le, wo, h1.1, h2.1, r1, r2, r3, r4, r5⟩⟩⟩

theorem lp_count {l : Launch} {D : va_G} {q : Nat → ClassId} {hd ho : Nat} {Wc Wm : va_W} (hR : lw_R q hd ho Wc Wm) (x : Int32) : lw_2 l D q hd ho Wc Wm ky_Dm_count kb_Dm_count 6 ky_Mo_count kb_Mo_count 6 (some .int) [.int x] := by
  obtain ⟨nb, bu, bf, n, tx, ty, B0, B1, L0, L1, nl, le, wo, hI, hJ, r1, r2, r3, r4, r5⟩ := hR
  obtain ⟨f1, f2, f3, f4, f5⟩ := hJ.f
  by_cases x0 : x = 0
  · subst x0
    refine ⟨7, 5, _, _, by decide, by decide, lc_count_0 l D hI, lm_count_0 l D hJ, fun r r' Wc' Wm' h1 h2 => ?_⟩
    obtain ⟨i1, f, a1, a2⟩ := h1
    obtain ⟨i2, t, g, at_, c1, c2, c3⟩ := h2
    have G := eq_tab f3 r3 (fun j hj => ⟨(r2 j hj).trans (c1 j hj).symm, by rw [r2 j hj]; exact f4 j hj⟩) a1 c2
    exact ⟨by rw [a2, c3, eq_count G], ⟨nb, bu, bf, n, tx, ty, B0, B1, L0, L1, nl, le, wo, i1, i2, r1, r2, r3, r4, r5⟩⟩
  by_cases x1 : x = 1
  · subst x1
    refine ⟨7, 5, _, _, by decide, by decide, lc_count_1 l D hI, lm_count_1 l D hJ, fun r r' Wc' Wm' h1 h2 => ?_⟩
    obtain ⟨i1, f, a1, a2⟩ := h1
    obtain ⟨i2, t, g, at_, c1, c2, c3⟩ := h2
    have G := eq_tab f3 r4 (fun j hj => ⟨(r2 j hj).trans (c1 j hj).symm, by rw [r2 j hj]; exact f4 j hj⟩) a1 c2
    exact ⟨by rw [a2, c3, eq_count G], ⟨nb, bu, bf, n, tx, ty, B0, B1, L0, L1, nl, le, wo, i1, i2, r1, r2, r3, r4, r5⟩⟩
  have hx : ¬ (x = 0 ∨ x = 1) := fun z => z.elim x0 x1
  exact ⟨1, 0, _, _, by decide, by decide, lc_count_bad l D hx hI, lm_count_bad l D hx hJ, fun r r' Wc' Wm' h1 h2 => ⟨h1.2.trans h2.2.symm, ⟨nb, bu, bf, n, tx, ty, B0, B1, L0, L1, nl, le, wo, h1.1, h2.1, r1, r2, r3, r4, r5⟩⟩⟩

theorem lp_earliest {l : Launch} {D : va_G} {q : Nat → ClassId} {hd ho : Nat} {Wc Wm : va_W} (hR : lw_R q hd ho Wc Wm) (x : Int32) : lw_2 l D q hd ho Wc Wm ky_Dm_earliest kb_Dm_earliest 5 ky_Mo_earliest kb_Mo_earliest 5 (some .int) [.int x] := by
  obtain ⟨nb, bu, bf, n, tx, ty, B0, B1, L0, L1, nl, le, wo, hI, hJ, r1, r2, r3, r4, r5⟩ := hR
  obtain ⟨f1, f2, f3, f4, f5⟩ := hJ.f
  by_cases x0 : x = 0
  · subst x0
    refine ⟨7, 5, _, _, by decide, by decide, lc_earliest_0 l D hI, lm_earliest_0 l D hJ, fun r r' Wc' Wm' h1 h2 => ?_⟩
    obtain ⟨i1, f, a1, a2⟩ := h1
    obtain ⟨i2, t, g, at_, c1, c2, c3⟩ := h2
    have G := eq_tab f3 r3 (fun j hj => ⟨(r2 j hj).trans (c1 j hj).symm, by rw [r2 j hj]; exact f4 j hj⟩) a1 c2
    exact ⟨by rw [a2, c3, eq_ear G _ _ (by omega)], ⟨nb, bu, bf, n, tx, ty, B0, B1, L0, L1, nl, le, wo, i1, i2, r1, r2, r3, r4, r5⟩⟩
  by_cases x1 : x = 1
  · subst x1
    refine ⟨7, 5, _, _, by decide, by decide, lc_earliest_1 l D hI, lm_earliest_1 l D hJ, fun r r' Wc' Wm' h1 h2 => ?_⟩
    obtain ⟨i1, f, a1, a2⟩ := h1
    obtain ⟨i2, t, g, at_, c1, c2, c3⟩ := h2
    have G := eq_tab f3 r4 (fun j hj => ⟨(r2 j hj).trans (c1 j hj).symm, by rw [r2 j hj]; exact f4 j hj⟩) a1 c2
    exact ⟨by rw [a2, c3, eq_ear G _ _ (by omega)], ⟨nb, bu, bf, n, tx, ty, B0, B1, L0, L1, nl, le, wo, i1, i2, r1, r2, r3, r4, r5⟩⟩
  have hx : ¬ (x = 0 ∨ x = 1) := fun z => z.elim x0 x1
  exact ⟨1, 0, _, _, by decide, by decide, lc_earliest_bad l D hx hI, lm_earliest_bad l D hx hJ, fun r r' Wc' Wm' h1 h2 => ⟨h1.2.trans h2.2.symm, ⟨nb, bu, bf, n, tx, ty, B0, B1, L0, L1, nl, le, wo, h1.1, h2.1, r1, r2, r3, r4, r5⟩⟩⟩

theorem lp_find {l : Launch} {D : va_G} {q : Nat → ClassId} {hd ho : Nat} {Wc Wm : va_W} (hR : lw_R q hd ho Wc Wm) (x y : Int32) : lw_2 l D q hd ho Wc Wm ky_Dm_find kb_Dm_find 6 ky_Mo_find kb_Mo_find 3 (some .int) [.int x, .int y] := by
  obtain ⟨nb, bu, bf, n, tx, ty, B0, B1, L0, L1, nl, le, wo, hI, hJ, r1, r2, r3, r4, r5⟩ := hR
  obtain ⟨f1, f2, f3, f4, f5⟩ := hJ.f
  by_cases hb : ¬ (x = 0 ∨ x = 1) ∨ y < 0 ∨ nI n < y
  · exact ⟨1, 0, _, _, by decide, by decide, lc_find_bad l D hb hI, lm_find_bad l D hb hJ, fun r r' Wc' Wm' h1 h2 => ⟨h1.2.trans h2.2.symm, ⟨nb, bu, bf, n, tx, ty, B0, B1, L0, L1, nl, le, wo, h1.1, h2.1, r1, r2, r3, r4, r5⟩⟩⟩
  have hx : x = 0 ∨ x = 1 := Classical.byContradiction (fun z => hb (Or.inl z))
  have hy1 : ¬ y < 0 := fun z => hb (Or.inr (Or.inl z))
  have hy2 : y ≤ nI n := Int32.not_lt.mp (fun z => hb (Or.inr (Or.inr z)))
  obtain ⟨j, hj, rfl⟩ := nI_of2 (M := nI n) (n := n) (nI_toInt (by omega)) hy1 hy2
  rcases hx with rfl | rfl
  · have x_ : True := trivial
    refine ⟨7, 5, _, _, by decide, by decide, lc_find_0 l D hj hI, lm_find_0 l D hj hJ, fun r r' Wc' Wm' h1 h2 => ?_⟩
    obtain ⟨i1, f, a1, a2⟩ := h1
    obtain ⟨i2, t, g, at_, c1, c2, c3⟩ := h2
    have G := eq_tab f3 r3 (fun j hj => ⟨(r2 j hj).trans (c1 j hj).symm, by rw [r2 j hj]; exact f4 j hj⟩) a1 c2
    exact ⟨by rw [a2, c3, eq_find G _ _ (by omega)], ⟨nb, bu, bf, n, tx, ty, B0, B1, L0, L1, nl, le, wo, i1, i2, r1, r2, r3, r4, r5⟩⟩
  · have x_ : True := trivial
    refine ⟨7, 5, _, _, by decide, by decide, lc_find_1 l D hj hI, lm_find_1 l D hj hJ, fun r r' Wc' Wm' h1 h2 => ?_⟩
    obtain ⟨i1, f, a1, a2⟩ := h1
    obtain ⟨i2, t, g, at_, c1, c2, c3⟩ := h2
    have G := eq_tab f3 r4 (fun j hj => ⟨(r2 j hj).trans (c1 j hj).symm, by rw [r2 j hj]; exact f4 j hj⟩) a1 c2
    exact ⟨by rw [a2, c3, eq_find G _ _ (by omega)], ⟨nb, bu, bf, n, tx, ty, B0, B1, L0, L1, nl, le, wo, i1, i2, r1, r2, r3, r4, r5⟩⟩

theorem lp_shortest {l : Launch} {D : va_G} {q : Nat → ClassId} {hd ho : Nat} {Wc Wm : va_W} (hR : lw_R q hd ho Wc Wm) (x y : Int32) : lw_2 l D q hd ho Wc Wm ky_Dm_shortest kb_Dm_shortest 6 ky_Mo_shortest kb_Mo_shortest 3 (some .int) [.int x, .int y] := by
  obtain ⟨nb, bu, bf, n, tx, ty, B0, B1, L0, L1, nl, le, wo, hI, hJ, r1, r2, r3, r4, r5⟩ := hR
  obtain ⟨f1, f2, f3, f4, f5⟩ := hJ.f
  by_cases hb : ¬ (x = 0 ∨ x = 1) ∨ y < 0 ∨ 4 < y
  · exact ⟨1, 0, _, _, by decide, by decide, lc_shortest_bad l D hb hI, lm_shortest_bad l D hb hJ, fun r r' Wc' Wm' h1 h2 => ⟨h1.2.trans h2.2.symm, ⟨nb, bu, bf, n, tx, ty, B0, B1, L0, L1, nl, le, wo, h1.1, h2.1, r1, r2, r3, r4, r5⟩⟩⟩
  have hx : x = 0 ∨ x = 1 := Classical.byContradiction (fun z => hb (Or.inl z))
  have hy1 : ¬ y < 0 := fun z => hb (Or.inr (Or.inl z))
  have hy2 : y ≤ nI 4 := Int32.not_lt.mp (fun z => hb (Or.inr (Or.inr z)))
  obtain ⟨j, hj, rfl⟩ := nI_of2 (M := nI 4) (n := 4) (nI_toInt (by omega)) hy1 hy2
  rcases hx with rfl | rfl
  · have x_ : True := trivial
    refine ⟨7, 7, _, _, by decide, by decide, lc_shortest_0 l D hj hI, lm_shortest_0 l D hj hJ, fun r r' Wc' Wm' h1 h2 => ?_⟩
    obtain ⟨nl1, le1, fw, i1, a1, a2⟩ := h1
    obtain ⟨wn1, wo1, i2, c1⟩ := h2
    obtain ⟨e1, e2, e3, e4⟩ := eq_words hj (fun j w h3 h4 => eq_cl r3 a1 (by omega)) a2 c1 r5 f5
    subst e2
    exact ⟨e1, ⟨nb, bu, bf, n, tx, ty, B0, B1, L0, L1, _, _, _, i1, i2, r1, r2, r3, r4, e3⟩⟩
  · have x_ : True := trivial
    refine ⟨7, 7, _, _, by decide, by decide, lc_shortest_1 l D hj hI, lm_shortest_1 l D hj hJ, fun r r' Wc' Wm' h1 h2 => ?_⟩
    obtain ⟨nl1, le1, fw, i1, a1, a2⟩ := h1
    obtain ⟨wn1, wo1, i2, c1⟩ := h2
    obtain ⟨e1, e2, e3, e4⟩ := eq_words hj (fun j w h3 h4 => eq_cl r4 a1 (by omega)) a2 c1 r5 f5
    subst e2
    exact ⟨e1, ⟨nb, bu, bf, n, tx, ty, B0, B1, L0, L1, _, _, _, i1, i2, r1, r2, r3, r4, e3⟩⟩

theorem lp_difference {l : Launch} {D : va_G} {q : Nat → ClassId} {hd ho : Nat} {Wc Wm : va_W} (hR : lw_R q hd ho Wc Wm) (y : Int32) : lw_2 l D q hd ho Wc Wm ky_Dm_difference kb_Dm_difference 6 ky_Mo_difference kb_Mo_difference 2 (some .int) [.int y] := by
  obtain ⟨nb, bu, bf, n, tx, ty, B0, B1, L0, L1, nl, le, wo, hI, hJ, r1, r2, r3, r4, r5⟩ := hR
  obtain ⟨f1, f2, f3, f4, f5⟩ := hJ.f
  by_cases hb : y < 0 ∨ 4 < y
  · exact ⟨0, 0, _, _, by decide, by decide, lc_difference_bad l D hb hI, lm_difference_bad l D hb hJ, fun r r' Wc' Wm' h1 h2 => ⟨h1.2.trans h2.2.symm, ⟨nb, bu, bf, n, tx, ty, B0, B1, L0, L1, nl, le, wo, h1.1, h2.1, r1, r2, r3, r4, r5⟩⟩⟩
  have hy1 : ¬ y < 0 := fun z => hb (Or.inl z)
  have hy2 : y ≤ nI 4 := Int32.not_lt.mp (fun z => hb (Or.inr z))
  obtain ⟨j, hj, rfl⟩ := nI_of2 (M := nI 4) (n := 4) (nI_toInt (by omega)) hy1 hy2
  refine ⟨7, 7, _, _, by decide, by decide, lc_difference l D hj hI, lm_difference l D hj hJ, fun r r' Wc' Wm' h1 h2 => ?_⟩
  obtain ⟨nl1, le1, fw, gw, i1, a1, a2, a3⟩ := h1
  obtain ⟨wn1, wo1, i2, c1⟩ := h2
  obtain ⟨e1, e2, e3, e4⟩ := eq_words hj (fun j w h3 h4 => by show (fw (wd_no (wd_b j w)) != gw (wd_no (wd_b j w))) = _; rw [eq_cl r3 a1 (by omega), eq_cl r4 a2 (by omega)]) a3 c1 r5 f5
  subst e2
  exact ⟨e1, ⟨nb, bu, bf, n, tx, ty, B0, B1, L0, L1, _, _, _, i1, i2, r1, r2, r3, r4, e3⟩⟩

theorem lp_word {l : Launch} {D : va_G} {q : Nat → ClassId} {hd ho : Nat} {Wc Wm : va_W} (hR : lw_R q hd ho Wc Wm) (x : Int32) : lw_2 l D q hd ho Wc Wm ky_Dm_word kb_Dm_word 2 ky_Mo_word kb_Mo_word 2 (some .int) [.int x] := by
  obtain ⟨nb, bu, bf, n, tx, ty, B0, B1, L0, L1, nl, le, wo, hI, hJ, r1, r2, r3, r4, r5⟩ := hR
  obtain ⟨f1, f2, f3, f4, f5⟩ := hJ.f
  refine ⟨0, 0, _, _, by decide, by decide, lc_word l D hI, lm_word l D hJ, fun r r' Wc' Wm' h1 h2 => ⟨?_, ⟨nb, bu, bf, n, tx, ty, B0, B1, L0, L1, nl, le, wo, h1.1, h2.1, r1, r2, r3, r4, r5⟩⟩⟩
  rw [h1.2, h2.2]
  by_cases hc : 0 ≤ x ∧ x < nI nl
  · rw [if_pos hc, if_pos hc]
    obtain ⟨j, hj, e⟩ := nI_of2 (M := nI nl) (n := nl) (nI_toInt (by omega)) (Int32.not_lt.mpr hc.1) (Int32.le_of_lt hc.2)
    have hlt : j < nl := (nI_ltI (by omega) (by omega)).mp (by rw [← e]; exact hc.2)
    rw [e, nI_clamp (by omega), r5 j hlt]
  · rw [if_neg hc, if_neg hc]

theorem lp_pattern {l : Launch} {D : va_G} {q : Nat → ClassId} {hd ho : Nat} {Wc Wm : va_W} (hR : lw_R q hd ho Wc Wm) (x : Int32) : lw_2 l D q hd ho Wc Wm ky_Dm_pattern kb_Dm_pattern 3 ky_Mo_pattern kb_Mo_pattern 6 (some .int) [.int x] := by
  obtain ⟨nb, bu, bf, n, tx, ty, B0, B1, L0, L1, nl, le, wo, hI, hJ, r1, r2, r3, r4, r5⟩ := hR
  obtain ⟨f1, f2, f3, f4, f5⟩ := hJ.f
  by_cases x0 : x = 0
  · subst x0
    refine ⟨6, 6, _, _, by decide, by decide, lc_pattern_0 l D hI, lm_pattern_0 l D hJ, fun r r' Wc' Wm' h1 h2 => ?_⟩
    obtain ⟨src, no, uo, io, hsrc, hc⟩ := h1
    obtain ⟨un, ii, rw_, no2, pc_, lo_, im, ex, ds, hm⟩ := h2
    have S := sm_all (src := src) (bf := bf) f1 (fun j hj => by rw [hsrc j hj, r1 j hj]; exact f2 j hj) (fun j hj => by rw [hsrc j hj, r1 j hj]) (noc := no) (uo := uo) (io := io) (un := un) (ii := ii) (rw_ := rw_) (no := no2) (pc_ := pc_) (lo_ := lo_) (im := im) (ex := ex) (ds := ds)
    have hm := hm _ rfl
    generalize md_go bf nb (nb + 1) 0 ([], 0, va_up un 0 0, va_up ii 0 0, va_up rw_ 0 0, va_up no2 0 0, va_up pc_ 0 0, 0, lo_, im, ex, ds) = G at S hm
    rcases S with ⟨s1, s2, s3⟩ | ⟨s1, s2, s3, s4, s5, s6, A, s7, s9⟩
    · rcases hc with ⟨a1, -, -⟩ | ⟨a1, a2, a3⟩
      · rw [a1] at s1
        cases s1
      rcases hm with ⟨c1, -, -⟩ | ⟨c1, c2, c3⟩
      · omega
      exact ⟨by rw [a2, c2, s3], ⟨0, bu, bf, n, tx, ty, B0, B1, L0, L1, nl, le, wo, a3, c3, fun j hj => absurd hj (Nat.not_lt_zero _), r2, r3, r4, r5⟩⟩
    · rcases hc with ⟨a1, a2, a3⟩ | ⟨a1, -, -⟩
      · rcases hm with ⟨c1, c2, c3⟩ | ⟨c1, -, -⟩
        · exact ⟨by rw [a2, c2], ⟨0, bu, bf, n, tx, ty, A, B1, _, L1, nl, le, wo, a3 A s6 s7, c3 s3 s4, fun j hj => absurd hj (Nat.not_lt_zero _), r2, s9, r4, r5⟩⟩
        · omega
      · rw [a1] at s1
        cases s1
  by_cases x1 : x = 1
  · subst x1
    refine ⟨6, 6, _, _, by decide, by decide, lc_pattern_1 l D hI, lm_pattern_1 l D hJ, fun r r' Wc' Wm' h1 h2 => ?_⟩
    obtain ⟨src, no, uo, io, hsrc, hc⟩ := h1
    obtain ⟨un, ii, rw_, no2, pc_, lo_, im, ex, ds, hm⟩ := h2
    have S := sm_all (src := src) (bf := bf) f1 (fun j hj => by rw [hsrc j hj, r1 j hj]; exact f2 j hj) (fun j hj => by rw [hsrc j hj, r1 j hj]) (noc := no) (uo := uo) (io := io) (un := un) (ii := ii) (rw_ := rw_) (no := no2) (pc_ := pc_) (lo_ := lo_) (im := im) (ex := ex) (ds := ds)
    have hm := hm _ rfl
    generalize md_go bf nb (nb + 1) 0 ([], 0, va_up un 0 0, va_up ii 0 0, va_up rw_ 0 0, va_up no2 0 0, va_up pc_ 0 0, 0, lo_, im, ex, ds) = G at S hm
    rcases S with ⟨s1, s2, s3⟩ | ⟨s1, s2, s3, s4, s5, s6, A, s7, s9⟩
    · rcases hc with ⟨a1, -, -⟩ | ⟨a1, a2, a3⟩
      · rw [a1] at s1
        cases s1
      rcases hm with ⟨c1, -, -⟩ | ⟨c1, c2, c3⟩
      · omega
      exact ⟨by rw [a2, c2, s3], ⟨0, bu, bf, n, tx, ty, B0, B1, L0, L1, nl, le, wo, a3, c3, fun j hj => absurd hj (Nat.not_lt_zero _), r2, r3, r4, r5⟩⟩
    · rcases hc with ⟨a1, a2, a3⟩ | ⟨a1, -, -⟩
      · rcases hm with ⟨c1, c2, c3⟩ | ⟨c1, -, -⟩
        · exact ⟨by rw [a2, c2], ⟨0, bu, bf, n, tx, ty, B0, A, L0, _, nl, le, wo, a3 A s6 s7, c3 s3 s4, fun j hj => absurd hj (Nat.not_lt_zero _), r2, r3, s9, r5⟩⟩
        · omega
      · rw [a1] at s1
        cases s1
  have hx : ¬ (x = 0 ∨ x = 1) := fun z => z.elim x0 x1
  exact ⟨1, 0, _, _, by decide, by decide, lc_pattern_bad l D hx hI, lm_pattern_bad l D hx hJ, fun r r' Wc' Wm' h1 h2 => ⟨h1.2.trans h2.2.symm, ⟨nb, bu, bf, n, tx, ty, B0, B1, L0, L1, nl, le, wo, h1.1, h2.1, r1, r2, r3, r4, r5⟩⟩⟩
