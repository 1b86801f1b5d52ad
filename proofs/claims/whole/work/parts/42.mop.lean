/-! the reference's masks of ends against languages -/
def mo_at (en : Nat) (t : Nat → Nat) (i : Nat) (A : dm_L) (x : Int32) : Prop := ∀ j, bt x j = true ↔ i ≤ j ∧ j ≤ en ∧ A (dm_cut t i (j - i))
def mo_is (en : Nat) (t : Nat → Nat) (A : dm_L) (g : Nat → Int32) : Prop := ∀ i, i ≤ en → mo_at en t i A (g i)
theorem mo_one_bt0 : ∀ i, i < 32 → ∀ j, j < 32 → bt ((1 : Int32) <<< (nI i &&& 31)) j = decide (j = i) := by decide +kernel
theorem mo_one_bt {i : Nat} (hi : i < 32) (j : Nat) : bt ((1 : Int32) <<< (nI i &&& 31)) j = decide (j = i) := by
  rcases Nat.lt_or_ge j 32 with h | h
  · exact mo_one_bt0 i hi j h
  · rw [b_big h, decide_eq_false (by omega)]
theorem mo_two_bt0 : ∀ i, i < 31 → ∀ j, j < 32 → bt ((2 : Int32) <<< (nI i &&& 31)) j = decide (j = i + 1) := by decide +kernel
theorem mo_two_bt {i : Nat} (hi : i < 31) (j : Nat) : bt ((2 : Int32) <<< (nI i &&& 31)) j = decide (j = i + 1) := by
  rcases Nat.lt_or_ge j 32 with h | h
  · exact mo_two_bt0 i hi j h
  · rw [b_big h, decide_eq_false (by omega)]
theorem mo_eps_at {en : Nat} {t : Nat → Nat} {i : Nat} (hi : i ≤ en) (hen : en ≤ 24) : mo_at en t i dm_eps ((1 : Int32) <<< (nI i &&& 31)) := by
  intro j
  rw [mo_one_bt (by omega), decide_eq_true_eq]
  constructor
  · rintro rfl
    exact ⟨Nat.le_refl _, hi, by rw [Nat.sub_self]; rfl⟩
  · rintro ⟨h1, h2, h3⟩
    have := congrArg List.length h3
    rw [dm_cut_len] at this
    have : j - i = 0 := this
    omega
theorem mo_on_bt (x : Int32) (g : Nat → Int32) (j : Nat) : ∀ n, bt (mo_on x g n) j = true ↔ ∃ k, k < n ∧ bt x k = true ∧ bt (g k) j = true
  | 0 => by
    show bt 0 j = true ↔ _
    rw [b_0]
    exact ⟨fun h => (by cases h), fun ⟨k, h, _⟩ => absurd h (Nat.not_lt_zero _)⟩
  | n + 1 => by
    have ih := mo_on_bt x g j n
    show bt (if bt x n = true then mo_on x g n ||| g n else mo_on x g n) j = true ↔ _
    by_cases h : bt x n = true
    · rw [if_pos h, b_or, Bool.or_eq_true, ih]
      constructor
      · rintro (⟨k, h1, h2, h3⟩ | h1)
        · exact ⟨k, by omega, h2, h3⟩
        · exact ⟨n, by omega, h, h1⟩
      · rintro ⟨k, h1, h2, h3⟩
        by_cases e : k = n
        · subst e; exact Or.inr h3
        · exact Or.inl ⟨k, by omega, h2, h3⟩
    · rw [if_neg h, ih]
      constructor
      · rintro ⟨k, h1, h2, h3⟩; exact ⟨k, by omega, h2, h3⟩
      · rintro ⟨k, h1, h2, h3⟩
        by_cases e : k = n
        · subst e; exact absurd h2 h
        · exact ⟨k, by omega, h2, h3⟩
theorem mo_on_congr {x : Int32} {g g' : Nat → Int32} : ∀ {n : Nat}, (∀ k, k < n → g k = g' k) → mo_on x g n = mo_on x g' n
  | 0, _ => rfl
  | n + 1, h => by
    show (if bt x n = true then mo_on x g n ||| g n else mo_on x g n) = (if bt x n = true then mo_on x g' n ||| g' n else mo_on x g' n)
    rw [mo_on_congr (fun k hk => h k (by omega)), h n (by omega)]
theorem mo_cat {A B : dm_L} {t : Nat → Nat} {i j k : Nat} (h1 : i ≤ k) (h2 : k ≤ j) (ha : A (dm_cut t i (k - i))) (hb : B (dm_cut t k (j - k))) : dm_cat A B (dm_cut t i (j - i)) := by
  refine dm_cat_cut.mpr ⟨k - i, by omega, ha, ?_⟩
  rw [show i + (k - i) = k by omega, show j - i - (k - i) = j - k by omega]
  exact hb
theorem mo_on_at {en : Nat} {t : Nat → Nat} {i : Nat} {A B : dm_L} {x : Int32} {g : Nat → Int32} (hx : mo_at en t i A x) (hg : mo_is en t B g) : mo_at en t i (dm_cat A B) (mo_on x g (en + 1)) := by
  intro j
  rw [mo_on_bt]
  constructor
  · rintro ⟨k, h1, h2, h3⟩
    have a := (hx k).mp h2
    have b := (hg k (by omega) j).mp h3
    exact ⟨by omega, b.2.1, mo_cat a.1 b.1 a.2.2 b.2.2⟩
  · rintro ⟨h1, h2, h3⟩
    obtain ⟨a, ha, hA, hB⟩ := dm_cat_cut.mp h3
    refine ⟨i + a, by omega, (hx (i + a)).mpr ⟨by omega, by omega, by rw [show i + a - i = a by omega]; exact hA⟩, (hg (i + a) (by omega) j).mpr ⟨by omega, h2, ?_⟩⟩
    rw [show j - (i + a) = j - i - a by omega]
    exact hB
theorem mo_or_at {en : Nat} {t : Nat → Nat} {i : Nat} {A B : dm_L} {x y : Int32} (hx : mo_at en t i A x) (hy : mo_at en t i B y) : mo_at en t i (dm_or A B) (x ||| y) := by
  intro j
  rw [b_or, Bool.or_eq_true, hx, hy]
  constructor
  · rintro (⟨h1, h2, h3⟩ | ⟨h1, h2, h3⟩)
    · exact ⟨h1, h2, Or.inl h3⟩
    · exact ⟨h1, h2, Or.inr h3⟩
  · rintro ⟨h1, h2, h3 | h3⟩
    · exact Or.inl ⟨h1, h2, h3⟩
    · exact Or.inr ⟨h1, h2, h3⟩
theorem mo_and_at {en : Nat} {t : Nat → Nat} {i : Nat} {A B : dm_L} {x y : Int32} (hx : mo_at en t i A x) (hy : mo_at en t i B y) : mo_at en t i (dm_and A B) (x &&& y) := by
  intro j
  rw [b_and, Bool.and_eq_true, hx, hy]
  constructor
  · rintro ⟨⟨h1, h2, h3⟩, -, -, h4⟩
    exact ⟨h1, h2, h3, h4⟩
  · rintro ⟨h1, h2, h3, h4⟩
    exact ⟨⟨h1, h2, h3⟩, h1, h2, h4⟩
theorem mo_mask_bt0 : ∀ en, en ≤ 24 → ∀ i, i ≤ en → ∀ j, j < 32 → bt (((2 : Int32) <<< (nI en &&& 31)) - ((1 : Int32) <<< (nI i &&& 31))) j = decide (i ≤ j ∧ j ≤ en) := by decide +kernel
theorem mo_not_at {en : Nat} {t : Nat → Nat} {i : Nat} {A : dm_L} {x : Int32} (hen : en ≤ 24) (hi : i ≤ en) (hx : mo_at en t i A x) : mo_at en t i (dm_not A) ((x ^^^ (-1)) &&& (((2 : Int32) <<< (nI en &&& 31)) - ((1 : Int32) <<< (nI i &&& 31)))) := by
  intro j
  rw [b_and, Bool.and_eq_true]
  rcases Nat.lt_or_ge j 32 with h | h
  · rw [mo_mask_bt0 en hen i hi j h, decide_eq_true_eq, b_xor, b_m1 j h]
    constructor
    · rintro ⟨h1, h2, h3⟩
      refine ⟨h2, h3, fun h4 => ?_⟩
      rw [(hx j).mpr ⟨h2, h3, h4⟩] at h1
      cases h1
    · rintro ⟨h2, h3, h4⟩
      refine ⟨?_, h2, h3⟩
      have : bt x j = false := by
        cases hc : bt x j with
        | false => rfl
        | true => exact absurd ((hx j).mp hc).2.2 h4
      rw [this]; rfl
  · constructor
    · rintro ⟨h1, -⟩
      rw [b_big h] at h1
      cases h1
    · rintro ⟨-, h3, -⟩; omega
theorem mo_ag_bt {x : Int32} {th : Nat → Int32} {i : Nat} (hi : i < 32) (j : Nat) : ∀ c, bt (mo_ag x th i c) j = true ↔ j = i ∨ ∃ k, i < k ∧ k ≤ i + c ∧ bt x k = true ∧ bt (th k) j = true
  | 0 => by
    show bt ((1 : Int32) <<< (nI i &&& 31)) j = true ↔ _
    rw [mo_one_bt hi, decide_eq_true_eq]
    constructor
    · exact Or.inl
    · rintro (h | ⟨k, h1, h2, -⟩)
      · exact h
      · omega
  | c + 1 => by
    have ih := mo_ag_bt (x := x) (th := th) hi j c
    show bt (if bt x (i + 1 + c) = true then mo_ag x th i c ||| th (i + 1 + c) else mo_ag x th i c) j = true ↔ _
    by_cases h : bt x (i + 1 + c) = true
    · rw [if_pos h, b_or, Bool.or_eq_true, ih]
      constructor
      · rintro ((h1 | ⟨k, h1, h2, h3, h4⟩) | h1)
        · exact Or.inl h1
        · exact Or.inr ⟨k, h1, by omega, h3, h4⟩
        · exact Or.inr ⟨i + 1 + c, by omega, by omega, h, h1⟩
      · rintro (h1 | ⟨k, h1, h2, h3, h4⟩)
        · exact Or.inl (Or.inl h1)
        · by_cases e : k = i + 1 + c
          · subst e; exact Or.inr h4
          · exact Or.inl (Or.inr ⟨k, h1, by omega, h3, h4⟩)
    · rw [if_neg h, ih]
      constructor
      · rintro (h1 | ⟨k, h1, h2, h3, h4⟩)
        · exact Or.inl h1
        · exact Or.inr ⟨k, h1, by omega, h3, h4⟩
      · rintro (h1 | ⟨k, h1, h2, h3, h4⟩)
        · exact Or.inl h1
        · by_cases e : k = i + 1 + c
          · subst e; exact absurd h3 h
          · exact Or.inr ⟨k, h1, by omega, h3, h4⟩
theorem mo_star_is {en : Nat} {t : Nat → Nat} {A : dm_L} {g th : Nat → Int32} (hen : en ≤ 24) (hg : mo_is en t A g) (ht : ∀ i, i ≤ en → th i = mo_ag (g i) th i (en - i)) : mo_is en t (dm_star A) th := by
  have main : ∀ d i, i ≤ en → en - i = d → mo_at en t i (dm_star A) (th i) := by
    intro d
    induction d using Nat.strongRecOn with
    | ind d ih =>
      intro i hi hd j
      rw [ht i hi, mo_ag_bt (by omega)]
      constructor
      · rintro (rfl | ⟨k, h1, h2, h3, h4⟩)
        · exact ⟨Nat.le_refl _, hi, by rw [Nat.sub_self]; exact dm_star_0 A⟩
        · have a := (hg i hi k).mp h3
          have b := (ih (en - k) (by omega) k (by omega) rfl j).mp h4
          refine ⟨by omega, b.2.1, ?_⟩
          rw [show j - i = (k - i) + (j - k) by omega, dm_cut_add, show i + (k - i) = k by omega]
          exact dm_star_app a.2.2 b.2.2
      · rintro ⟨h1, h2, h3⟩
        by_cases e : j = i
        · exact Or.inl e
        · refine Or.inr ?_
          rcases dm_star_cons h3 with z | ⟨u, v, hu, z, hA, hS⟩
          · have := congrArg List.length z
            rw [dm_cut_len] at this
            have : j - i = 0 := this
            omega
          · obtain ⟨a, ha, rfl, rfl⟩ := dm_cut_split z
            have ha0 : a ≠ 0 := by
              intro y
              subst y
              exact hu rfl
            refine ⟨i + a, by omega, by omega, (hg i hi (i + a)).mpr ⟨by omega, by omega, by rw [show i + a - i = a by omega]; exact hA⟩, (ih (en - (i + a)) (by omega) (i + a) (by omega) rfl j).mpr ⟨by omega, h2, ?_⟩⟩
            rw [show j - (i + a) = j - i - a by omega]
            exact hS
  exact fun i hi => main (en - i) i hi rfl
/-- what is gathered from the places of a on, from place i -/
def mo_fr (a : Int32) (th : Nat → Int32) (i : Nat) : Nat → Int32
  | 0 => 0
  | c + 1 => if bt a (i + c) = true then mo_fr a th i c ||| th (i + c) else mo_fr a th i c
theorem mo_fr_bt (a : Int32) (th : Nat → Int32) (i j : Nat) : ∀ c, bt (mo_fr a th i c) j = true ↔ ∃ k, i ≤ k ∧ k < i + c ∧ bt a k = true ∧ bt (th k) j = true
  | 0 => by
    show bt 0 j = true ↔ _
    rw [b_0]
    exact ⟨fun h => (by cases h), fun ⟨k, h1, h2, _⟩ => absurd h2 (by omega)⟩
  | c + 1 => by
    have ih := mo_fr_bt a th i j c
    show bt (if bt a (i + c) = true then mo_fr a th i c ||| th (i + c) else mo_fr a th i c) j = true ↔ _
    by_cases h : bt a (i + c) = true
    · rw [if_pos h, b_or, Bool.or_eq_true, ih]
      constructor
      · rintro (⟨k, h0, h1, h2, h3⟩ | h1)
        · exact ⟨k, h0, by omega, h2, h3⟩
        · exact ⟨i + c, by omega, by omega, h, h1⟩
      · rintro ⟨k, h0, h1, h2, h3⟩
        by_cases e : k = i + c
        · subst e; exact Or.inr h3
        · exact Or.inl ⟨k, h0, by omega, h2, h3⟩
    · rw [if_neg h, ih]
      constructor
      · rintro ⟨k, h0, h1, h2, h3⟩; exact ⟨k, h0, by omega, h2, h3⟩
      · rintro ⟨k, h0, h1, h2, h3⟩
        by_cases e : k = i + c
        · subst e; exact absurd h2 h
        · exact ⟨k, h0, by omega, h2, h3⟩
theorem mo_fr_at {en : Nat} {t : Nat → Nat} {i : Nat} {A B : dm_L} {x : Int32} {g : Nat → Int32} (hi : i ≤ en) (hx : mo_at en t i A x) (hg : mo_is en t B g) : mo_at en t i (dm_cat A B) (mo_fr x g i (en + 1 - i)) := by
  intro j
  rw [mo_fr_bt]
  constructor
  · rintro ⟨k, h0, h1, h2, h3⟩
    have a := (hx k).mp h2
    have b := (hg k (by omega) j).mp h3
    exact ⟨by omega, b.2.1, mo_cat a.1 b.1 a.2.2 b.2.2⟩
  · rintro ⟨h1, h2, h3⟩
    obtain ⟨a, ha, hA, hB⟩ := dm_cat_cut.mp h3
    refine ⟨i + a, by omega, by omega, (hx (i + a)).mpr ⟨by omega, by omega, by rw [show i + a - i = a by omega]; exact hA⟩, (hg (i + a) (by omega) j).mpr ⟨by omega, h2, ?_⟩⟩
    rw [show j - (i + a) = j - i - a by omega]
    exact hB
theorem mo_cat_opt (X A : dm_L) : dm_or X (dm_cat X A) = dm_cat X (dm_or A dm_eps) := by
  apply dm_ext
  intro w
  constructor
  · rintro (h | ⟨u, v, e, hu, hv⟩)
    · exact ⟨w, [], by simp, h, Or.inr rfl⟩
    · exact ⟨u, v, e, hu, Or.inl hv⟩
  · rintro ⟨u, v, e, hu, hv | hv⟩
    · exact Or.inr ⟨u, v, e, hu, hv⟩
    · cases hv
      rw [List.append_nil] at e
      subst e
      exact Or.inl hu
theorem mo_opt_s {en : Nat} {t : Nat → Nat} {i k : Nat} {P A : dm_L} {x : Int32} {g : Nat → Int32} (hx : mo_at en t i (dm_cat P (dm_pow (dm_or A dm_eps) k)) x) (hg : mo_is en t A g) : mo_at en t i (dm_cat P (dm_pow (dm_or A dm_eps) (k + 1))) (x ||| mo_on x g (en + 1)) := by
  show mo_at en t i (dm_cat P (dm_cat (dm_pow (dm_or A dm_eps) k) (dm_or A dm_eps))) _
  rw [← dm_cat_assoc, ← mo_cat_opt]
  exact mo_or_at hx (mo_on_at hx hg)
