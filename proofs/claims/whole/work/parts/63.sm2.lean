/-! the reference's nodes: fine ones, what closing a piece, a row, an intersection does to their number and to the languages -/
def md_fn (k : Nat) (x : md_N) : Prop := nd_fine k x.1 x.2.1 x.2.2.1 (x.2.2.2 0).toNatClampNeg ∧ (x.1 = 9 → x.2.2.2 0 = nI (x.2.2.2 0).toNatClampNeg)
def md_fi (NL : List md_N) : Prop := ∀ j (h : j < NL.length), md_fn j (NL[j])

theorem md_fi_snoc {NL : List md_N} (h : md_fi NL) {x : md_N} (hf : md_fn NL.length x) : md_fi (NL ++ [x]) := by
  intro j hj
  have hj2 : j < NL.length + 1 := by simpa using hj
  by_cases e : j = NL.length
  · subst e
    have eq : (NL ++ [x])[NL.length]'hj = x := by simp
    rw [eq]
    exact hf
  · have eq : (NL ++ [x])[j]'hj = NL[j]'(by omega) := List.getElem_append_left (by omega)
    rw [eq]
    exact h j (by omega)

theorem md_fi_init {NL : List md_N} {x : md_N} (h : md_fi (NL ++ [x])) : md_fi NL := by
  intro j hj
  have hj2 : j < (NL ++ [x]).length := by rw [List.length_append]; omega
  have z := h j hj2
  have eq : (NL ++ [x])[j]'hj2 = NL[j]'hj := List.getElem_append_left hj
  rw [eq] at z
  exact z

theorem nd_fine_of {k kk a b : Nat} {f : Nat → Int32} (h9 : kk < 9) (ha : a < 128) (hb : b < 128) (h2 : 2 ≤ kk → a < k) (h3 : kk = 2 ∨ kk = 3 ∨ kk = 4 → b < k) : md_fn k (kk, a, b, f) := ⟨⟨(by show kk ≤ 9; omega), ha, hb, h2, h3, (fun z => by have z : kk = 9 := z; omega)⟩, (fun z => by have z : kk = 9 := z; omega)⟩

def sm_op (k : Nat) (A B : dm_L) : dm_L := if k = 2 then dm_cat A B else if k = 3 then dm_and A B else dm_or A B

theorem md_j_all {k : Nat} (hk : 2 ≤ k ∧ k ≤ 4) {NL : List md_N} {v p : Nat} (hp : p < NL.length) (hv : v ≤ NL.length) (hN : NL.length ≤ 128) (hfi : md_fi NL) : sm_ext NL (md_j k NL v p).1 ∧ (md_j k NL v p).1.length = NL.length + min v 1 ∧ (p + 1 = NL.length → (md_j k NL v p).2 = (md_j k NL v p).1.length) ∧ 0 < (md_j k NL v p).2 ∧ (md_j k NL v p).2 ≤ (md_j k NL v p).1.length ∧ md_fi (md_j k NL v p).1 ∧ sm_G (md_j k NL v p).1 ((md_j k NL v p).2 - 1) = (if v = 0 then sm_G NL p else sm_op k (sm_G NL (v - 1)) (sm_G NL p)) := by
  by_cases h : v = 0
  · rw [show md_j k NL v p = (NL, p + 1) from if_pos h, if_pos h]
    dsimp only
    exact ⟨sm_ext.refl _, by omega, fun z => z, Nat.succ_pos _, hp, hfi, rfl⟩
  · rw [show md_j k NL v p = (NL ++ [(k, v - 1, p, fun _ => 0)], NL.length + 1) from if_neg h, if_neg h]
    dsimp only
    have hl : (NL ++ [((k, v - 1, p, fun _ => 0) : md_N)]).length = NL.length + 1 := by rw [List.length_append]; rfl
    refine ⟨sm_ext.one _ _, by omega, fun _ => hl.symm, Nat.succ_pos _, by omega, md_fi_snoc hfi (nd_fine_of (by show k < 9; omega) (by show v - 1 < 128; omega) (by show p < 128; omega) (fun _ => by show v - 1 < NL.length; omega) (fun _ => hp)), ?_⟩
    show sm_G (NL ++ [(k, v - 1, p, fun _ => 0)]) NL.length = _
    rw [sm_G_new]
    have hk2 : k = 2 ∨ k = 3 ∨ k = 4 := by omega
    rcases hk2 with rfl | rfl | rfl
    · rfl
    · rfl
    · rfl

theorem md_nt_all {NL : List md_N} {p : Nat} (hp : p < NL.length) (hfi : md_fi NL) : ∀ c, NL.length + c ≤ 128 → sm_ext NL (md_nt NL p c).1 ∧ (md_nt NL p c).2 < (md_nt NL p c).1.length ∧ (p + 1 = NL.length → (md_nt NL p c).2 + 1 = (md_nt NL p c).1.length) ∧ md_fi (md_nt NL p c).1 ∧ sm_G (md_nt NL p c).1 (md_nt NL p c).2 = sm_nt (sm_G NL p) c
  | 0, _ => ⟨sm_ext.refl _, hp, fun z => z, hfi, rfl⟩
  | c + 1, hc => by
    obtain ⟨h1, h2, h3, h4, h5⟩ := md_nt_all hp hfi c (by omega)
    have hl := md_nt_len NL p c
    refine ⟨h1.trans (sm_ext.one _ _), ?_, fun _ => ?_, ?_, ?_⟩
    · show (md_nt NL p c).1.length < ((md_nt NL p c).1 ++ [((5, (md_nt NL p c).2, 0, fun _ => 0) : md_N)]).length
      rw [List.length_append]
      exact Nat.lt_succ_self _
    · show (md_nt NL p c).1.length + 1 = ((md_nt NL p c).1 ++ [((5, (md_nt NL p c).2, 0, fun _ => 0) : md_N)]).length
      rw [List.length_append]
      rfl
    · exact md_fi_snoc h4 (nd_fine_of (by decide) (by show (md_nt NL p c).2 < 128; omega) (by decide) (fun _ => h2) (fun z => absurd z (by decide)))
    · show sm_G ((md_nt NL p c).1 ++ [(5, (md_nt NL p c).2, 0, fun _ => 0)]) (md_nt NL p c).1.length = dm_not (sm_nt (sm_G NL p) c)
      rw [sm_G_new, ← h5]
      rfl
/-- the row with its open piece; the intersection with it; the union with it -/
def sm_tp (NL : List md_N) (rv nv pv : Nat) : dm_L := if pv = 0 then sm_row NL rv else dm_cat (sm_row NL rv) (sm_nt (sm_G NL (pv - 1)) nv)
def sm_tr (NL : List md_N) (iv rv nv pv : Nat) : dm_L := if iv = 0 then sm_tp NL rv nv pv else dm_and (sm_G NL (iv - 1)) (sm_tp NL rv nv pv)
def sm_ti (NL : List md_N) (uv iv rv nv pv : Nat) : dm_L := if uv = 0 then sm_tr NL iv rv nv pv else dm_or (sm_G NL (uv - 1)) (sm_tr NL iv rv nv pv)

theorem sm_row_pos {NL : List md_N} {v : Nat} (h : 0 < v) : sm_row NL v = sm_G NL (v - 1) := if_neg (by omega)

theorem md_cp_all {NL : List md_N} {rv nv pv : Nat} (hr : rv + min pv 1 ≤ NL.length) (hp : 0 < pv → pv = NL.length) (hN : NL.length + nv + 2 ≤ 128) (hfi : md_fi NL) : sm_ext NL (md_cp NL rv nv pv).1 ∧ (0 < pv → (md_cp NL rv nv pv).1.length ≤ NL.length + nv + 1 ∧ (md_cp NL rv nv pv).2 = (md_cp NL rv nv pv).1.length) ∧ (pv = 0 → (md_cp NL rv nv pv).1 = NL ∧ (md_cp NL rv nv pv).2 = rv) ∧ (md_cp NL rv nv pv).2 ≤ (md_cp NL rv nv pv).1.length ∧ md_fi (md_cp NL rv nv pv).1 ∧ sm_row (md_cp NL rv nv pv).1 (md_cp NL rv nv pv).2 = sm_tp NL rv nv pv := by
  by_cases h : pv = 0
  · rw [show md_cp NL rv nv pv = (NL, rv) from if_pos h, show sm_tp NL rv nv pv = sm_row NL rv from if_pos h]
    dsimp only
    exact ⟨sm_ext.refl _, fun z => by omega, fun _ => ⟨rfl, rfl⟩, by omega, hfi, rfl⟩
  · have hp := hp (by omega)
    obtain ⟨n1, n2, n3, n4, n5⟩ := md_nt_all (NL := NL) (p := pv - 1) (by omega) hfi nv (by omega)
    have nl := md_nt_len NL (pv - 1) nv
    have n3 := n3 (by omega)
    obtain ⟨j1, j2, j3, j4, j5, j6, j7⟩ := md_j_all (k := 2) ⟨by decide, by decide⟩ (NL := (md_nt NL (pv - 1) nv).1) (v := rv) (p := (md_nt NL (pv - 1) nv).2) n2 (by omega) (by omega) n4
    rw [show md_cp NL rv nv pv = md_j 2 (md_nt NL (pv - 1) nv).1 rv (md_nt NL (pv - 1) nv).2 from if_neg h, show sm_tp NL rv nv pv = dm_cat (sm_row NL rv) (sm_nt (sm_G NL (pv - 1)) nv) from if_neg h]
    refine ⟨n1.trans j1, fun _ => ⟨by omega, j3 n3⟩, fun z => absurd z h, j5, j6, ?_⟩
    rw [sm_row_pos j4, j7, n5]
    by_cases e : rv = 0
    · rw [if_pos e, e]
      exact (dm_eps_cat _).symm
    · rw [if_neg e, n1.G (by omega), sm_row_pos (by omega)]
      rfl

theorem md_er_all {s : List md_N × Nat} (h : s.2 ≤ s.1.length) (hN : s.1.length < 128) (hfi : md_fi s.1) : sm_ext s.1 (md_er s).1 ∧ (s.2 = 0 → (md_er s).1.length = s.1.length + 1) ∧ (0 < s.2 → (md_er s).1 = s.1) ∧ (md_er s).2 < (md_er s).1.length ∧ (s.2 = 0 ∨ s.2 = s.1.length → (md_er s).2 + 1 = (md_er s).1.length) ∧ md_fi (md_er s).1 ∧ sm_G (md_er s).1 (md_er s).2 = sm_row s.1 s.2 := by
  by_cases e : s.2 = 0
  · rw [show md_er s = (s.1 ++ [(0, 0, 0, fun _ => 0)], s.1.length) from if_pos e, show sm_row s.1 s.2 = dm_eps from if_pos e]
    dsimp only
    have hl : (s.1 ++ [((0, 0, 0, fun _ => 0) : md_N)]).length = s.1.length + 1 := by rw [List.length_append]; rfl
    refine ⟨sm_ext.one _ _, fun _ => hl, fun z => by omega, by omega, fun _ => hl.symm, md_fi_snoc hfi (nd_fine_of (by decide) (by decide) (by decide) (fun z => absurd z (by decide)) (fun z => absurd z (by decide))), ?_⟩
    rw [sm_G_new]
    rfl
  · rw [show md_er s = (s.1, s.2 - 1) from if_neg e, show sm_row s.1 s.2 = sm_G s.1 (s.2 - 1) from if_neg e]
    dsimp only
    exact ⟨sm_ext.refl _, fun z => absurd z e, fun _ => rfl, by omega, fun z => by omega, hfi, rfl⟩

theorem md_cr_all {NL : List md_N} {iv rv nv pv : Nat} (hi : iv + min pv 1 ≤ NL.length) (hr : rv + min pv 1 ≤ NL.length) (hp : 0 < pv → pv = NL.length) (hz : pv = 0 → rv = 0) (hN : NL.length + nv + 3 ≤ 128) (hfi : md_fi NL) : sm_ext NL (md_cr NL iv rv nv pv).1 ∧ (md_cr NL iv rv nv pv).1.length ≤ NL.length + nv + 1 + min iv 1 ∧ NL.length + 1 ≤ (md_cr NL iv rv nv pv).1.length + min pv 1 ∧ (md_cr NL iv rv nv pv).2 = (md_cr NL iv rv nv pv).1.length ∧ 0 < (md_cr NL iv rv nv pv).2 ∧ md_fi (md_cr NL iv rv nv pv).1 ∧ sm_G (md_cr NL iv rv nv pv).1 ((md_cr NL iv rv nv pv).2 - 1) = sm_tr NL iv rv nv pv := by
  obtain ⟨c1, c2, c3, c4, c5, c6⟩ := md_cp_all (nv := nv) hr hp (by omega) hfi
  have cl := c1.len
  have k1 : (md_cp NL rv nv pv).1.length ≤ NL.length + nv + 1 := by
    by_cases e : pv = 0
    · rw [(c3 e).1]; omega
    · exact (c2 (by omega)).1
  have k2 : (md_cp NL rv nv pv).2 = 0 ∨ (md_cp NL rv nv pv).2 = (md_cp NL rv nv pv).1.length := by
    by_cases e : pv = 0
    · rw [(c3 e).2]; exact Or.inl (hz e)
    · exact Or.inr (c2 (by omega)).2
  obtain ⟨e1, e2, e3, e4, e5, e6, e7⟩ := md_er_all c4 (by omega) c5
  have el := e1.len
  have k3 : (md_er (md_cp NL rv nv pv)).1.length ≤ NL.length + nv + 1 ∧ NL.length + 1 ≤ (md_er (md_cp NL rv nv pv)).1.length + min pv 1 := by
    by_cases e : pv = 0
    · have q : (md_cp NL rv nv pv).2 = 0 := by rw [(c3 e).2]; exact hz e
      have q1 := e2 q
      have q2 := congrArg List.length (c3 e).1
      omega
    · have q := c2 (by omega)
      have q1 := congrArg List.length (e3 (by omega))
      omega
  obtain ⟨j1, j2, j3, j4, j5, j6, j7⟩ := md_j_all (k := 3) ⟨by decide, by decide⟩ (NL := (md_er (md_cp NL rv nv pv)).1) (v := iv) (p := (md_er (md_cp NL rv nv pv)).2) e4 (by omega) (by omega) e6
  refine ⟨(c1.trans e1).trans j1, ?_, ?_, j3 (e5 k2), j4, j6, ?_⟩
  · show (md_j 3 (md_er (md_cp NL rv nv pv)).1 iv (md_er (md_cp NL rv nv pv)).2).1.length ≤ _
    omega
  · show _ ≤ (md_j 3 (md_er (md_cp NL rv nv pv)).1 iv (md_er (md_cp NL rv nv pv)).2).1.length + _
    omega
  · refine j7.trans ?_
    rw [e7, c6]
    unfold sm_tr
    by_cases e : iv = 0
    · rw [if_pos e, if_pos e]
    · rw [if_neg e, if_neg e, (c1.trans e1).G (by omega)]
      rfl

theorem md_ci_all {NL : List md_N} {uv iv rv nv pv : Nat} (hu : uv + min pv 1 ≤ NL.length) (hi : iv + min pv 1 ≤ NL.length) (hr : rv + min pv 1 ≤ NL.length) (hp : 0 < pv → pv = NL.length) (hz : pv = 0 → rv = 0) (hN : NL.length + nv + 3 ≤ 128) (hfi : md_fi NL) : sm_ext NL (md_ci NL uv iv rv nv pv).1 ∧ (md_ci NL uv iv rv nv pv).1.length ≤ NL.length + nv + 1 + min iv 1 + min uv 1 ∧ NL.length + 1 ≤ (md_ci NL uv iv rv nv pv).1.length + min pv 1 ∧ (md_ci NL uv iv rv nv pv).2 = (md_ci NL uv iv rv nv pv).1.length ∧ 0 < (md_ci NL uv iv rv nv pv).2 ∧ md_fi (md_ci NL uv iv rv nv pv).1 ∧ sm_G (md_ci NL uv iv rv nv pv).1 ((md_ci NL uv iv rv nv pv).2 - 1) = sm_ti NL uv iv rv nv pv := by
  obtain ⟨c1, c2, c3, c4, c5, c6, c7⟩ := md_cr_all (nv := nv) hi hr hp hz hN hfi
  have cl := c1.len
  obtain ⟨j1, j2, j3, j4, j5, j6, j7⟩ := md_j_all (k := 4) ⟨by decide, by decide⟩ (NL := (md_cr NL iv rv nv pv).1) (v := uv) (p := (md_cr NL iv rv nv pv).2 - 1) (by omega) (by omega) (by omega) c6
  refine ⟨c1.trans j1, ?_, ?_, j3 (by omega), j4, j6, ?_⟩
  · show (md_j 4 (md_cr NL iv rv nv pv).1 uv ((md_cr NL iv rv nv pv).2 - 1)).1.length ≤ _
    omega
  · show _ ≤ (md_j 4 (md_cr NL iv rv nv pv).1 uv ((md_cr NL iv rv nv pv).2 - 1)).1.length + _
    omega
  · refine j7.trans ?_
    rw [c7]
    unfold sm_ti
    by_cases e : uv = 0
    · rw [if_pos e, if_pos e]
    · rw [if_neg e, if_neg e, c1.G (by omega)]
      rfl

def sm_lo (f : Nat → Nat) : Nat → Nat
  | 0 => 0
  | k + 1 => sm_lo f k + f k
def sm_g (un ii no : Nat → Nat) (j : Nat) : Nat := no j + min (un j) 1 + min (ii j) 1

theorem sm_lo_congr {f g : Nat → Nat} : ∀ {k : Nat}, (∀ j, j < k → f j = g j) → sm_lo f k = sm_lo g k
  | 0, _ => rfl
  | k + 1, h => by
    show sm_lo f k + f k = sm_lo g k + g k
    rw [sm_lo_congr (k := k) (fun j hj => h j (by omega)), h k (by omega)]

theorem sm_lo_g {un ii no un' ii' no' : Nat → Nat} {k : Nat} (h : ∀ j, j < k → un' j = un j ∧ ii' j = ii j ∧ no' j = no j) : sm_lo (sm_g un' ii' no') k = sm_lo (sm_g un ii no) k :=
  sm_lo_congr (fun j hj => by
    have e := h j hj
    unfold sm_g
    rw [e.1, e.2.1, e.2.2])

theorem sm_lo_gs (un ii no : Nat → Nat) (k : Nat) : sm_lo (sm_g un ii no) (k + 1) = sm_lo (sm_g un ii no) k + (no k + min (un k) 1 + min (ii k) 1) := rfl
/-- the reference's reading after pl characters: how much it holds -/
def md_w (pl : Nat) (NL : List md_N) (dp : Nat) (un ii rw_ no pc_ : Nat → Nat) : Prop := dp ≤ pl ∧ NL.length + sm_lo (sm_g un ii no) dp + no dp + min (un dp) 1 + min (ii dp) 1 + min (pc_ dp) 1 ≤ 2 * pl ∧ (∀ j, j ≤ dp → un j + min (pc_ dp) 1 ≤ NL.length ∧ ii j + min (pc_ dp) 1 ≤ NL.length ∧ rw_ j + min (pc_ dp) 1 ≤ NL.length) ∧ (0 < pc_ dp → pc_ dp = NL.length) ∧ (pc_ dp = 0 → no dp = 0 → rw_ dp = 0) ∧ md_fi NL

def md_vs (NL : List md_N) (pv st_ : Nat) (lo_ : Int32) (im : Nat) : Prop := st_ ≤ 9 ∧ (st_ ≠ 0 → 0 < pv) ∧ (5 ≤ st_ → ∃ NL0 f, NL = NL0 ++ [((1, 0, 0, f) : md_N)]) ∧ (2 ≤ st_ ∧ st_ ≤ 4 → ∃ lw, lw ≤ 9 ∧ lo_ = nI lw ∧ (st_ = 4 → lw ≤ im ∧ im ≤ 9)) ∧ (7 ≤ st_ ∧ st_ ≤ 8 → 32 ≤ im ∧ im < 127)

theorem md_vs_0 {NL : List md_N} {pv : Nat} {lo_ : Int32} {im : Nat} : md_vs NL pv 0 lo_ im := ⟨by decide, fun z => absurd rfl z, fun z => by omega, fun z => by omega, fun z => by omega⟩

theorem md_w_ci {pl : Nat} {NL : List md_N} {dp : Nat} {un ii rw_ no pc_ : Nat → Nat} (h : md_w pl NL dp un ii rw_ no pc_) (hpl : pl ≤ 40) (hc : no dp = 0 ∨ 0 < pc_ dp) : md_w (pl + 1) (md_ci NL (un dp) (ii dp) (rw_ dp) (no dp) (pc_ dp)).1 dp (va_up un dp (md_ci NL (un dp) (ii dp) (rw_ dp) (no dp) (pc_ dp)).2) (va_up ii dp 0) (va_up rw_ dp 0) (va_up no dp (if pc_ dp = 0 then no dp else 0)) (va_up pc_ dp 0) := by
  obtain ⟨a1, a2, a3, a4, a5, a6⟩ := h
  have b := a3 dp (Nat.le_refl _)
  obtain ⟨c1, c2, c3, c4, c5, c6, -⟩ := md_ci_all (nv := no dp) b.1 b.2.1 b.2.2 a4 (fun z => a5 z (by omega)) (by omega) a6
  have cl := c1.len
  have e : (if pc_ dp = 0 then no dp else 0) = 0 := by
    split
    · omega
    · rfl
  rw [e]
  refine ⟨by omega, ?_, fun j hj => ?_, fun z => ?_, fun _ _ => va_up_eq', c6⟩
  · rw [sm_lo_g (un := un) (ii := ii) (no := no) (fun j hj => ⟨va_up_ne' (by omega), va_up_ne' (by omega), va_up_ne' (by omega)⟩), va_up_eq', va_up_eq', va_up_eq', va_up_eq']
    omega
  · have q := a3 j hj
    rw [va_up_eq' (f := pc_)]
    by_cases ej : j = dp
    · rw [ej, va_up_eq', va_up_eq', va_up_eq']
      omega
    · rw [va_up_ne' ej, va_up_ne' ej, va_up_ne' ej]
      omega
  · rw [va_up_eq'] at z
    omega

theorem md_w_cr {pl : Nat} {NL : List md_N} {dp : Nat} {un ii rw_ no pc_ : Nat → Nat} (h : md_w pl NL dp un ii rw_ no pc_) (hpl : pl ≤ 40) (hc : no dp = 0 ∨ 0 < pc_ dp) : md_w (pl + 1) (md_cr NL (ii dp) (rw_ dp) (no dp) (pc_ dp)).1 dp un (va_up ii dp (md_cr NL (ii dp) (rw_ dp) (no dp) (pc_ dp)).2) (va_up rw_ dp 0) (va_up no dp (if pc_ dp = 0 then no dp else 0)) (va_up pc_ dp 0) := by
  obtain ⟨a1, a2, a3, a4, a5, a6⟩ := h
  have b := a3 dp (Nat.le_refl _)
  obtain ⟨c1, c2, c3, c4, c5, c6, -⟩ := md_cr_all (nv := no dp) b.2.1 b.2.2 a4 (fun z => a5 z (by omega)) (by omega) a6
  have cl := c1.len
  have e : (if pc_ dp = 0 then no dp else 0) = 0 := by
    split
    · omega
    · rfl
  rw [e]
  refine ⟨by omega, ?_, fun j hj => ?_, fun z => ?_, fun _ _ => va_up_eq', c6⟩
  · rw [sm_lo_g (un := un) (ii := ii) (no := no) (fun j hj => ⟨rfl, va_up_ne' (by omega), va_up_ne' (by omega)⟩), va_up_eq', va_up_eq', va_up_eq']
    omega
  · have q := a3 j hj
    rw [va_up_eq' (f := pc_)]
    by_cases ej : j = dp
    · rw [ej, va_up_eq', va_up_eq']
      rw [ej] at q
      omega
    · rw [va_up_ne' ej, va_up_ne' ej]
      omega
  · rw [va_up_eq'] at z
    omega

theorem md_w_cl {pl : Nat} {NL : List md_N} {d : Nat} {un ii rw_ no pc_ : Nat → Nat} (h : md_w pl NL (d + 1) un ii rw_ no pc_) (hpl : pl ≤ 40) (hc : no (d + 1) = 0 ∨ 0 < pc_ (d + 1)) : md_w (pl + 1) (md_ci NL (un (d + 1)) (ii (d + 1)) (rw_ (d + 1)) (no (d + 1)) (pc_ (d + 1))).1 d (va_up un (d + 1) (md_ci NL (un (d + 1)) (ii (d + 1)) (rw_ (d + 1)) (no (d + 1)) (pc_ (d + 1))).2) (va_up ii (d + 1) 0) (va_up rw_ (d + 1) 0) (va_up no (d + 1) (if pc_ (d + 1) = 0 then no (d + 1) else 0)) (va_up (va_up pc_ (d + 1) 0) d (md_ci NL (un (d + 1)) (ii (d + 1)) (rw_ (d + 1)) (no (d + 1)) (pc_ (d + 1))).2) := by
  obtain ⟨a1, a2, a3, a4, a5, a6⟩ := h
  have b := a3 (d + 1) (Nat.le_refl _)
  rw [sm_lo_gs] at a2
  obtain ⟨c1, c2, c3, c4, c5, c6, -⟩ := md_ci_all (nv := no (d + 1)) b.1 b.2.1 b.2.2 a4 (fun z => a5 z (by omega)) (by omega) a6
  have cl := c1.len
  have ne : d ≠ d + 1 := by omega
  refine ⟨by omega, ?_, fun j hj => ?_, fun z => ?_, fun z _ => ?_, c6⟩
  · rw [sm_lo_g (un := un) (ii := ii) (no := no) (fun j hj => ⟨va_up_ne' (by omega), va_up_ne' (by omega), va_up_ne' (by omega)⟩), va_up_eq', va_up_ne' ne, va_up_ne' ne, va_up_ne' ne]
    omega
  · have q := a3 j (by omega)
    have ej : j ≠ d + 1 := by omega
    rw [va_up_eq' (k := d), va_up_ne' ej, va_up_ne' ej, va_up_ne' ej]
    omega
  · rw [va_up_eq']
    exact c4
  · rw [va_up_eq'] at z
    omega

theorem md_w_mk {pl : Nat} {NL : List md_N} {dp : Nat} {un ii rw_ no pc_ : Nat → Nat} (h : md_w pl NL dp un ii rw_ no pc_) (hc : 0 < pc_ dp) {x : md_N} (hx : md_fn NL.length x) : md_w (pl + 1) (NL ++ [x]) dp un ii rw_ no (va_up pc_ dp (NL.length + 1)) := by
  obtain ⟨a1, a2, a3, a4, a5, a6⟩ := h
  have hl : (NL ++ [x]).length = NL.length + 1 := by rw [List.length_append]; rfl
  refine ⟨by omega, ?_, fun j hj => ?_, fun z => ?_, fun z _ => ?_, md_fi_snoc a6 hx⟩
  · rw [va_up_eq', hl]
    omega
  · have q := a3 j hj
    rw [va_up_eq', hl]
    omega
  · rw [va_up_eq', hl]
  · rw [va_up_eq'] at z
    omega

theorem md_w_ti {pl : Nat} {NL : List md_N} {dp : Nat} {un ii rw_ no pc_ : Nat → Nat} (h : md_w pl NL dp un ii rw_ no pc_) (hpl : pl ≤ 40) : md_w (pl + 1) (md_cp NL (rw_ dp) (no dp) (pc_ dp)).1 dp un ii (va_up rw_ dp (md_cp NL (rw_ dp) (no dp) (pc_ dp)).2) (va_up no dp ((if pc_ dp = 0 then no dp else 0) + 1)) (va_up pc_ dp 0) := by
  obtain ⟨a1, a2, a3, a4, a5, a6⟩ := h
  have b := a3 dp (Nat.le_refl _)
  obtain ⟨c1, c2, c3, c4, c5, -⟩ := md_cp_all (nv := no dp) b.2.2 a4 (by omega) a6
  have cl := c1.len
  have k1 : (md_cp NL (rw_ dp) (no dp) (pc_ dp)).1.length + (if pc_ dp = 0 then no dp else 0) ≤ NL.length + no dp + min (pc_ dp) 1 := by
    by_cases e : pc_ dp = 0
    · have q := congrArg List.length (c3 e).1
      rw [if_pos e]
      omega
    · have q := c2 (by omega)
      rw [if_neg e]
      omega
  refine ⟨by omega, ?_, fun j hj => ?_, fun z => ?_, fun _ z => ?_, c5⟩
  · rw [sm_lo_g (un := un) (ii := ii) (no := no) (fun j hj => ⟨rfl, rfl, va_up_ne' (by omega)⟩), va_up_eq', va_up_eq']
    omega
  · have q := a3 j hj
    rw [va_up_eq' (f := pc_)]
    by_cases ej : j = dp
    · rw [ej, va_up_eq']
      rw [ej] at q
      omega
    · rw [va_up_ne' ej]
      omega
  · rw [va_up_eq'] at z
    omega
  · rw [va_up_eq'] at z
    omega

theorem md_w_op {pl : Nat} {NL : List md_N} {dp : Nat} {un ii rw_ no pc_ : Nat → Nat} (h : md_w pl NL dp un ii rw_ no pc_) (hpl : pl ≤ 40) : md_w (pl + 1) (md_cp NL (rw_ dp) (no dp) (pc_ dp)).1 (dp + 1) (va_up un (dp + 1) 0) (va_up ii (dp + 1) 0) (va_up (va_up rw_ dp (md_cp NL (rw_ dp) (no dp) (pc_ dp)).2) (dp + 1) 0) (va_up (va_up no dp (if pc_ dp = 0 then no dp else 0)) (dp + 1) 0) (va_up (va_up pc_ dp 0) (dp + 1) 0) := by
  obtain ⟨a1, a2, a3, a4, a5, a6⟩ := h
  have b := a3 dp (Nat.le_refl _)
  obtain ⟨c1, c2, c3, c4, c5, -⟩ := md_cp_all (nv := no dp) b.2.2 a4 (by omega) a6
  have cl := c1.len
  have ne : dp ≠ dp + 1 := by omega
  have k1 : (md_cp NL (rw_ dp) (no dp) (pc_ dp)).1.length + (if pc_ dp = 0 then no dp else 0) ≤ NL.length + no dp + min (pc_ dp) 1 := by
    by_cases e : pc_ dp = 0
    · have q := congrArg List.length (c3 e).1
      rw [if_pos e]
      omega
    · have q := c2 (by omega)
      rw [if_neg e]
      omega
  refine ⟨by omega, ?_, fun j hj => ?_, fun z => ?_, fun _ _ => va_up_eq', c5⟩
  · rw [sm_lo_gs, sm_lo_g (un := un) (ii := ii) (no := no) (fun j hj => ⟨va_up_ne' (by omega), va_up_ne' (by omega), by rw [va_up_ne' (by omega), va_up_ne' (by omega)]⟩), va_up_eq', va_up_eq', va_up_eq', va_up_eq', va_up_ne' ne, va_up_ne' ne, va_up_ne' ne, va_up_eq']
    omega
  · rw [va_up_eq' (k := dp + 1)]
    by_cases ej : j = dp + 1
    · rw [ej, va_up_eq', va_up_eq', va_up_eq']
      omega
    · have q := a3 j (by omega)
      rw [va_up_ne' ej, va_up_ne' ej, va_up_ne' ej]
      by_cases ei : j = dp
      · rw [ei, va_up_eq']
        rw [ei] at q
        omega
      · rw [va_up_ne' ei]
        omega
  · rw [va_up_eq'] at z
    omega

theorem md_w_one {pl : Nat} {NL : List md_N} {dp : Nat} {un ii rw_ no pc_ : Nat → Nat} (h : md_w pl NL dp un ii rw_ no pc_) (hpl : pl ≤ 40) (f : Nat → Int32) : md_w (pl + 1) ((md_cp NL (rw_ dp) (no dp) (pc_ dp)).1 ++ [(1, 0, 0, f)]) dp un ii (va_up rw_ dp (md_cp NL (rw_ dp) (no dp) (pc_ dp)).2) (va_up no dp (if pc_ dp = 0 then no dp else 0)) (va_up pc_ dp ((md_cp NL (rw_ dp) (no dp) (pc_ dp)).1.length + 1)) := by
  obtain ⟨a1, a2, a3, a4, a5, a6⟩ := h
  have b := a3 dp (Nat.le_refl _)
  obtain ⟨c1, c2, c3, c4, c5, -⟩ := md_cp_all (nv := no dp) b.2.2 a4 (by omega) a6
  have cl := c1.len
  have hl : ((md_cp NL (rw_ dp) (no dp) (pc_ dp)).1 ++ [((1, 0, 0, f) : md_N)]).length = (md_cp NL (rw_ dp) (no dp) (pc_ dp)).1.length + 1 := by rw [List.length_append]; rfl
  have k1 : (md_cp NL (rw_ dp) (no dp) (pc_ dp)).1.length + (if pc_ dp = 0 then no dp else 0) ≤ NL.length + no dp + min (pc_ dp) 1 := by
    by_cases e : pc_ dp = 0
    · have q := congrArg List.length (c3 e).1
      rw [if_pos e]
      omega
    · have q := c2 (by omega)
      rw [if_neg e]
      omega
  refine ⟨by omega, ?_, fun j hj => ?_, fun z => ?_, fun z _ => ?_, md_fi_snoc c5 (nd_fine_of (by decide) (by decide) (by decide) (fun z => absurd z (by decide)) (fun z => absurd z (by decide)))⟩
  · rw [sm_lo_g (un := un) (ii := ii) (no := no) (fun j hj => ⟨rfl, rfl, va_up_ne' (by omega)⟩), va_up_eq', va_up_eq', hl]
    omega
  · have q := a3 j hj
    rw [va_up_eq' (f := pc_), hl]
    by_cases ej : j = dp
    · rw [ej, va_up_eq']
      rw [ej] at q
      omega
    · rw [va_up_ne' ej]
      omega
  · rw [va_up_eq', hl]
  · rw [va_up_eq'] at z
    omega

theorem md_w_same {pl : Nat} {NL : List md_N} {dp : Nat} {un ii rw_ no pc_ : Nat → Nat} (h : md_w pl NL dp un ii rw_ no pc_) : md_w (pl + 1) NL dp un ii rw_ no pc_ := ⟨by have := h.1; omega, by have := h.2.1; omega, h.2.2⟩

theorem md_w_set {pl : Nat} {NL0 : List md_N} {f : Nat → Int32} {dp : Nat} {un ii rw_ no pc_ : Nat → Nat} (h : md_w pl (NL0 ++ [(1, 0, 0, f)]) dp un ii rw_ no pc_) (g : Nat → Int32) : md_w pl (NL0 ++ [(1, 0, 0, g)]) dp un ii rw_ no pc_ := by
  have e : (NL0 ++ [((1, 0, 0, f) : md_N)]).length = (NL0 ++ [((1, 0, 0, g) : md_N)]).length := by rw [List.length_append, List.length_append]; rfl
  obtain ⟨a1, a2, a3, a4, a5, a6⟩ := h
  rw [e] at a2 a3 a4
  exact ⟨a1, a2, a3, a4, a5, md_fi_snoc (md_fi_init a6) (nd_fine_of (by decide) (by decide) (by decide) (fun z => absurd z (by decide)) (fun z => absurd z (by decide)))⟩
