/-! rows of lengths against languages -/
def ro_is (n M : Nat) (t : Nat → Nat) (A : dm_L) (f : Nat → Int32) : Prop := ∀ i, i ≤ n → ∀ k, bt (f i) k = true ↔ k ≤ min M (n - i) ∧ A (dm_cut t i k)
def ro_mask (r : Nat) : Int32 := ((1 : Int32) <<< (nI (r + 1) &&& 31)) - 1
theorem ro_mask_bt0 : ∀ r, r < 31 → ∀ k, k < 32 → bt (ro_mask r) k = decide (k ≤ r) := by decide +kernel
theorem ro_mask_bt {r : Nat} (hr : r < 31) (k : Nat) : bt (ro_mask r) k = decide (k ≤ r) := by
  rcases Nat.lt_or_ge k 32 with h | h
  · exact ro_mask_bt0 r hr k h
  · rw [b_big h, decide_eq_false (by omega)]
theorem ro_one_bt (k : Nat) : bt 1 k = decide (k = 0) := by
  rcases Nat.lt_or_ge k 32 with h | h
  · exact (by decide +kernel : ∀ k, k < 32 → bt 1 k = decide (k = 0)) k h
  · rw [b_big h, decide_eq_false (by omega)]
theorem ro_two_bt (k : Nat) : bt 2 k = decide (k = 1) := by
  rcases Nat.lt_or_ge k 32 with h | h
  · exact (by decide +kernel : ∀ k, k < 32 → bt 2 k = decide (k = 1)) k h
  · rw [b_big h, decide_eq_false (by omega)]
theorem ro_m2_bt {k : Nat} (h : k < 32) : bt (-2) k = decide (k ≠ 0) := (by decide +kernel : ∀ k, k < 32 → bt (-2) k = decide (k ≠ 0)) k h
/-- what lengthsThrough has gathered when the lengths below r are done -/
def ro_thr (x : Int32) (g : Nat → Int32) (b : Nat) : Nat → Int32
  | 0 => 0
  | r + 1 => if bt x r = true then ro_thr x g b r ||| (g (b + r) <<< (nI r &&& 31)) else ro_thr x g b r
theorem ro_thr_bt (x : Int32) (g : Nat → Int32) (b r : Nat) (hr : r ≤ 32) {k : Nat} (hk : k < 32) : bt (ro_thr x g b r) k = true ↔ ∃ a, a < r ∧ a ≤ k ∧ bt x a = true ∧ bt (g (b + a)) (k - a) = true := by
  induction r with
  | zero =>
    show bt 0 k = true ↔ _
    rw [b_0]
    constructor
    · intro h; cases h
    · rintro ⟨a, h, -⟩; omega
  | succ r ih =>
    have ih := ih (by omega)
    show bt (if bt x r = true then ro_thr x g b r ||| (g (b + r) <<< (nI r &&& 31)) else ro_thr x g b r) k = true ↔ _
    by_cases hx : bt x r = true
    · rw [if_pos hx, b_or, Bool.or_eq_true, ih, b_shl r (by omega) _ hk, Bool.and_eq_true, decide_eq_true_eq]
      constructor
      · rintro (⟨a, h1, h2, h3, h4⟩ | ⟨h1, h2⟩)
        · exact ⟨a, by omega, h2, h3, h4⟩
        · exact ⟨r, by omega, h1, hx, h2⟩
      · rintro ⟨a, h1, h2, h3, h4⟩
        rcases Nat.lt_or_ge a r with q | q
        · exact Or.inl ⟨a, q, h2, h3, h4⟩
        · have : a = r := by omega
          subst this
          exact Or.inr ⟨h2, h4⟩
    · rw [if_neg hx, ih]
      constructor
      · rintro ⟨a, h1, h2, h3, h4⟩
        exact ⟨a, by omega, h2, h3, h4⟩
      · rintro ⟨a, h1, h2, h3, h4⟩
        rcases Nat.lt_or_ge a r with q | q
        · exact ⟨a, q, h2, h3, h4⟩
        · have : a = r := by omega
          subst this
          exact absurd h3 hx
def ro_lt (n M : Nat) (x : Int32) (g : Nat → Int32) (i : Nat) : Int32 := ro_thr x g i (min M (n - i) + 1) &&& ro_mask (min M (n - i))
theorem ro_lt_bt {n M : Nat} (hM : M ≤ 30) (x : Int32) (g : Nat → Int32) (i k : Nat) : bt (ro_lt n M x g i) k = true ↔ k ≤ min M (n - i) ∧ ∃ a, a ≤ k ∧ bt x a = true ∧ bt (g (i + a)) (k - a) = true := by
  unfold ro_lt
  rw [b_and, Bool.and_eq_true, ro_mask_bt (by omega), decide_eq_true_eq]
  rcases Nat.lt_or_ge k 32 with hk | hk
  · rw [ro_thr_bt _ _ _ _ (by omega) hk]
    constructor
    · rintro ⟨⟨a, h1, h2, h3, h4⟩, h5⟩
      exact ⟨h5, a, h2, h3, h4⟩
    · rintro ⟨h5, a, h2, h3, h4⟩
      exact ⟨⟨a, by omega, h2, h3, h4⟩, h5⟩
  · constructor
    · rintro ⟨-, h⟩; omega
    · rintro ⟨h, -⟩; omega
theorem ro_join_is {n M : Nat} (hM : M ≤ 30) {t : Nat → Nat} {A B : dm_L} {f g h : Nat → Int32} (hf : ro_is n M t A f) (hg : ro_is n M t B g) (hh : ∀ i, i ≤ n → h i = ro_lt n M (f i) g i) : ro_is n M t (dm_cat A B) h := by
  intro i hi k
  rw [hh i hi, ro_lt_bt hM, dm_cat_cut]
  constructor
  · rintro ⟨hk, a, ha, h1, h2⟩
    have h3 := (hf i hi a).mp h1
    have h4 := (hg (i + a) (by omega) (k - a)).mp h2
    exact ⟨hk, a, ha, h3.2, h4.2⟩
  · rintro ⟨hk, a, ha, h1, h2⟩
    exact ⟨hk, a, ha, (hf i hi a).mpr ⟨by omega, h1⟩, (hg (i + a) (by omega) (k - a)).mpr ⟨by omega, h2⟩⟩
theorem ro_loop_is {n M : Nat} (hM : M ≤ 30) {t : Nat → Nat} {A : dm_L} {f h : Nat → Int32} (hf : ro_is n M t A f) (hh : ∀ i, i ≤ n → h i = 1 ||| ro_lt n M (f i &&& (-2)) h i) : ro_is n M t (dm_star A) h := by
  have main : ∀ d i, i ≤ n → n - i = d → ∀ k, bt (h i) k = true ↔ k ≤ min M (n - i) ∧ dm_star A (dm_cut t i k) := by
    intro d
    induction d using Nat.strongRecOn with
    | ind d ih =>
      intro i hi hd k
      rw [hh i hi, b_or, Bool.or_eq_true, ro_one_bt, decide_eq_true_eq, ro_lt_bt hM]
      constructor
      · rintro (rfl | ⟨hk, a, ha, h1, h2⟩)
        · exact ⟨by omega, dm_star_0 A⟩
        · rw [b_and, Bool.and_eq_true] at h1
          have ha32 : a < 32 := by omega
          rw [ro_m2_bt ha32, decide_eq_true_eq] at h1
          have h3 := (hf i hi a).mp h1.1
          have h4 := (ih (n - (i + a)) (by omega) (i + a) (by omega) rfl (k - a)).mp h2
          refine ⟨hk, ?_⟩
          rw [show k = a + (k - a) by omega, dm_cut_add]
          exact dm_star_app h3.2 h4.2
      · rintro ⟨hk, hs⟩
        by_cases h0 : k = 0
        · exact Or.inl h0
        · refine Or.inr ⟨hk, ?_⟩
          rcases dm_star_cons hs with e | ⟨u, v, hu, e, h1, h2⟩
          · have := congrArg List.length e
            rw [dm_cut_len] at this
            exact absurd this h0
          · obtain ⟨a, ha, rfl, rfl⟩ := dm_cut_split e
            have ha0 : a ≠ 0 := by
              intro q
              subst q
              exact hu rfl
            refine ⟨a, ha, ?_, (ih (n - (i + a)) (by omega) (i + a) (by omega) rfl (k - a)).mpr ⟨by omega, h2⟩⟩
            rw [b_and, Bool.and_eq_true, ro_m2_bt (by omega), decide_eq_true_eq]
            exact ⟨(hf i hi a).mpr ⟨by omega, h1⟩, ha0⟩
  intro i hi k
  exact main (n - i) i hi rfl k
theorem ro_or_is {n M : Nat} {t : Nat → Nat} {A B : dm_L} {f g h : Nat → Int32} (hf : ro_is n M t A f) (hg : ro_is n M t B g) (hh : ∀ i, i ≤ n → h i = f i ||| g i) : ro_is n M t (dm_or A B) h := by
  intro i hi k
  rw [hh i hi, b_or, Bool.or_eq_true, hf i hi, hg i hi]
  constructor
  · rintro (⟨h1, h2⟩ | ⟨h1, h2⟩)
    · exact ⟨h1, Or.inl h2⟩
    · exact ⟨h1, Or.inr h2⟩
  · rintro ⟨h1, h2 | h2⟩
    · exact Or.inl ⟨h1, h2⟩
    · exact Or.inr ⟨h1, h2⟩
theorem ro_and_is {n M : Nat} {t : Nat → Nat} {A B : dm_L} {f g h : Nat → Int32} (hf : ro_is n M t A f) (hg : ro_is n M t B g) (hh : ∀ i, i ≤ n → h i = f i &&& g i) : ro_is n M t (dm_and A B) h := by
  intro i hi k
  rw [hh i hi, b_and, Bool.and_eq_true, hf i hi, hg i hi]
  constructor
  · rintro ⟨⟨h1, h2⟩, h3, h4⟩
    exact ⟨h1, h2, h4⟩
  · rintro ⟨h1, h2, h4⟩
    exact ⟨⟨h1, h2⟩, h1, h4⟩
theorem ro_not_is {n M : Nat} (hM : M ≤ 30) {t : Nat → Nat} {A : dm_L} {f h : Nat → Int32} (hf : ro_is n M t A f) (hh : ∀ i, i ≤ n → h i = (f i ^^^ (-1)) &&& ro_mask (min M (n - i))) : ro_is n M t (dm_not A) h := by
  intro i hi k
  rw [hh i hi, b_and, Bool.and_eq_true, ro_mask_bt (by omega), decide_eq_true_eq]
  constructor
  · rintro ⟨h1, h2⟩
    refine ⟨h2, fun h3 => ?_⟩
    rw [b_xor, b_m1 k (by omega), (hf i hi k).mpr ⟨h2, h3⟩] at h1
    cases h1
  · rintro ⟨h1, h2⟩
    refine ⟨?_, h1⟩
    rw [b_xor, b_m1 k (by omega)]
    have : bt (f i) k = false := by
      cases hc : bt (f i) k with
      | false => rfl
      | true => exact absurd ((hf i hi k).mp hc).2 h2
    rw [this]
    rfl
theorem ro_eps_is {n M : Nat} {t : Nat → Nat} {h : Nat → Int32} (hh : ∀ i, i ≤ n → h i = 1) : ro_is n M t dm_eps h := by
  intro i hi k
  rw [hh i hi, ro_one_bt, decide_eq_true_eq]
  constructor
  · rintro rfl
    exact ⟨by omega, rfl⟩
  · rintro ⟨-, h2⟩
    have := congrArg List.length h2
    rw [dm_cut_len] at this
    exact this
theorem ro_rng_is {n M a b : Nat} (hM : 1 ≤ M) {t : Nat → Nat} {h : Nat → Int32} (hh : ∀ i, i < n → h i = if a ≤ t i ∧ t i ≤ b then 2 else 0) (hn : h n = 0) : ro_is n M t (dm_rng a b) h := by
  intro i hi k
  constructor
  · intro hb
    rcases Nat.lt_or_ge i n with q | q
    · rw [hh i q] at hb
      by_cases hc : a ≤ t i ∧ t i ≤ b
      · rw [if_pos hc, ro_two_bt, decide_eq_true_eq] at hb
        subst hb
        exact ⟨by omega, t i, hc.1, hc.2, dm_cut_1 t i⟩
      · rw [if_neg hc, b_0] at hb
        cases hb
    · have : i = n := by omega
      subst this
      rw [hn, b_0] at hb
      cases hb
  · rintro ⟨hk, c, h1, h2, h3⟩
    have hl := congrArg List.length h3
    rw [dm_cut_len] at hl
    have hk1 : k = 1 := hl
    subst hk1
    rw [dm_cut_1] at h3
    have hc : t i = c := by injection h3
    rw [hh i (by omega), hc, if_pos ⟨h1, h2⟩, ro_two_bt]
    rfl
