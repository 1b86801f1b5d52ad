/-! words as lists of Nat, languages as predicates; a row of lengths (an Int32 for each place, bit k: the part of k characters that begins there fits) against a language -/
abbrev dm_L : Type := List Nat → Prop
/-- the part of k characters that begins at place i -/
def dm_cut (t : Nat → Nat) (i k : Nat) : List Nat := (List.range k).map (fun j => t (i + j))
theorem dm_cut_0 (t : Nat → Nat) (i : Nat) : dm_cut t i 0 = [] := rfl
theorem dm_cut_len (t : Nat → Nat) (i k : Nat) : (dm_cut t i k).length = k := by simp [dm_cut]
theorem dm_cut_add (t : Nat → Nat) (i a b : Nat) : dm_cut t i (a + b) = dm_cut t i a ++ dm_cut t (i + a) b := by
  unfold dm_cut
  rw [List.range_add, List.map_append, List.map_map]
  congr 1
  apply List.map_congr_left
  intro j _
  simp [Nat.add_assoc]
theorem dm_cut_1 (t : Nat → Nat) (i : Nat) : dm_cut t i 1 = [t i] := by simp [dm_cut, List.range_succ]
theorem dm_cut_split {t : Nat → Nat} {i k : Nat} {u v : List Nat} (h : dm_cut t i k = u ++ v) : ∃ a, a ≤ k ∧ u = dm_cut t i a ∧ v = dm_cut t (i + a) (k - a) := by
  have hl : k = u.length + v.length := by
    have := congrArg List.length h
    rw [dm_cut_len, List.length_append] at this
    exact this
  refine ⟨u.length, by omega, ?_, ?_⟩
  · have h2 := h
    rw [hl, dm_cut_add] at h2
    exact (List.append_inj h2 (by rw [dm_cut_len])).1.symm
  · have h2 := h
    rw [hl, dm_cut_add] at h2
    rw [show k - u.length = v.length by omega]
    exact (List.append_inj h2 (by rw [dm_cut_len])).2.symm
def dm_eps : dm_L := fun w => w = []
def dm_rng (a b : Nat) : dm_L := fun w => ∃ c, a ≤ c ∧ c ≤ b ∧ w = [c]
def dm_cat (A B : dm_L) : dm_L := fun w => ∃ u v, w = u ++ v ∧ A u ∧ B v
def dm_or (A B : dm_L) : dm_L := fun w => A w ∨ B w
def dm_and (A B : dm_L) : dm_L := fun w => A w ∧ B w
def dm_not (A : dm_L) : dm_L := fun w => ¬ A w
def dm_pow (A : dm_L) : Nat → dm_L
  | 0 => dm_eps
  | n + 1 => dm_cat (dm_pow A n) A
def dm_star (A : dm_L) : dm_L := fun w => ∃ n, dm_pow A n w
/-- low to high times; high is told as one more, 0 meaning as often as one likes -/
def dm_rep (A : dm_L) (lo hi : Nat) : dm_L := fun w => ∃ n, lo ≤ n ∧ (hi = 0 ∨ n < hi) ∧ dm_pow A n w
theorem dm_cat_cut {A B : dm_L} {t : Nat → Nat} {i k : Nat} : dm_cat A B (dm_cut t i k) ↔ ∃ a, a ≤ k ∧ A (dm_cut t i a) ∧ B (dm_cut t (i + a) (k - a)) := by
  constructor
  · rintro ⟨u, v, e, hu, hv⟩
    obtain ⟨a, ha, rfl, rfl⟩ := dm_cut_split e
    exact ⟨a, ha, hu, hv⟩
  · rintro ⟨a, ha, h1, h2⟩
    refine ⟨_, _, ?_, h1, h2⟩
    rw [← dm_cut_add, show a + (k - a) = k by omega]
theorem dm_ext {A B : dm_L} (h : ∀ w, A w ↔ B w) : A = B := funext fun w => propext (h w)
theorem dm_cat_assoc (A B C : dm_L) : dm_cat (dm_cat A B) C = dm_cat A (dm_cat B C) := by
  apply dm_ext
  intro w
  constructor
  · rintro ⟨u, v, rfl, ⟨u1, u2, rfl, h1, h2⟩, h3⟩
    exact ⟨u1, u2 ++ v, by simp, h1, u2, v, rfl, h2, h3⟩
  · rintro ⟨u, v, rfl, h1, v1, v2, rfl, h2, h3⟩
    exact ⟨u ++ v1, v2, by simp, ⟨u, v1, rfl, h1, h2⟩, h3⟩
theorem dm_eps_cat (A : dm_L) : dm_cat dm_eps A = A := by
  apply dm_ext
  intro w
  constructor
  · rintro ⟨u, v, rfl, hu, hv⟩
    cases hu
    exact hv
  · intro h
    exact ⟨[], w, rfl, rfl, h⟩
theorem dm_cat_eps (A : dm_L) : dm_cat A dm_eps = A := by
  apply dm_ext
  intro w
  constructor
  · rintro ⟨u, v, rfl, hu, hv⟩
    cases hv
    rw [List.append_nil]
    exact hu
  · intro h
    exact ⟨w, [], by simp, h, rfl⟩
theorem dm_pow_add (A : dm_L) (a b : Nat) : dm_pow A (a + b) = dm_cat (dm_pow A a) (dm_pow A b) := by
  induction b with
  | zero => exact (dm_cat_eps _).symm
  | succ b ih =>
    show dm_cat (dm_pow A (a + b)) A = dm_cat (dm_pow A a) (dm_cat (dm_pow A b) A)
    rw [ih, dm_cat_assoc]
theorem dm_pow_1 (A : dm_L) : dm_pow A 1 = A := dm_eps_cat A
/-- a first part that isn't empty can be taken off a loop -/
theorem dm_star_cons {A : dm_L} {w : List Nat} (h : dm_star A w) : w = [] ∨ ∃ u v, u ≠ [] ∧ w = u ++ v ∧ A u ∧ dm_star A v := by
  obtain ⟨n, h⟩ := h
  induction n generalizing w with
  | zero => exact Or.inl h
  | succ n ih =>
    have h2 : dm_pow A (1 + n) w := by rw [Nat.add_comm]; exact h
    rw [dm_pow_add, dm_pow_1] at h2
    obtain ⟨u, v, rfl, hu, hv⟩ := h2
    cases u with
    | nil => exact ih hv
    | cons c u => exact Or.inr ⟨c :: u, v, by simp, rfl, hu, n, hv⟩
theorem dm_star_0 (A : dm_L) : dm_star A [] := ⟨0, rfl⟩
theorem dm_star_app {A : dm_L} {u v : List Nat} (hu : A u) (hv : dm_star A v) : dm_star A (u ++ v) := by
  obtain ⟨n, hv⟩ := hv
  refine ⟨1 + n, ?_⟩
  rw [dm_pow_add, dm_pow_1]
  exact ⟨u, v, rfl, hu, hv⟩
theorem dm_rep_many (A : dm_L) (lo : Nat) : dm_rep A lo 0 = dm_cat (dm_pow A lo) (dm_star A) := by
  apply dm_ext
  intro w
  constructor
  · rintro ⟨n, h1, -, h3⟩
    have : dm_pow A (lo + (n - lo)) w := by rw [show lo + (n - lo) = n by omega]; exact h3
    rw [dm_pow_add] at this
    obtain ⟨u, v, e, hu, hv⟩ := this
    exact ⟨u, v, e, hu, n - lo, hv⟩
  · rintro ⟨u, v, e, hu, n, hv⟩
    refine ⟨lo + n, by omega, Or.inl rfl, ?_⟩
    rw [dm_pow_add]
    exact ⟨u, v, e, hu, hv⟩
/-- so many times, or fewer: with the empty word joined -/
theorem dm_opt_pow (A : dm_L) (k : Nat) (w : List Nat) : dm_pow (dm_or A dm_eps) k w ↔ ∃ n, n ≤ k ∧ dm_pow A n w := by
  induction k generalizing w with
  | zero =>
    constructor
    · intro h
      exact ⟨0, by omega, h⟩
    · rintro ⟨n, hn, h⟩
      have : n = 0 := by omega
      subst this
      exact h
  | succ k ih =>
    constructor
    · rintro ⟨u, v, rfl, hu, hv⟩
      obtain ⟨n, hn, h⟩ := (ih u).mp hu
      rcases hv with hv | hv
      · exact ⟨n + 1, by omega, u, v, rfl, h, hv⟩
      · cases hv
        exact ⟨n, by omega, by rw [List.append_nil]; exact h⟩
    · rintro ⟨n, hn, h⟩
      rcases Nat.lt_or_ge n (k + 1) with q | q
      · exact ⟨w, [], by simp, (ih w).mpr ⟨n, by omega, h⟩, Or.inr rfl⟩
      · have : n = k + 1 := by omega
        subst this
        obtain ⟨u, v, rfl, hu, hv⟩ := h
        exact ⟨u, v, rfl, (ih u).mpr ⟨k, by omega, hu⟩, Or.inl hv⟩
theorem dm_rep_some (A : dm_L) (lo more : Nat) : dm_rep A lo (lo + more + 1) = dm_cat (dm_pow A lo) (dm_pow (dm_or A dm_eps) more) := by
  apply dm_ext
  intro w
  constructor
  · rintro ⟨n, h1, h2, h3⟩
    have hlt : n < lo + more + 1 := by rcases h2 with h2 | h2; · omega
                                       · exact h2
    have : dm_pow A (lo + (n - lo)) w := by rw [show lo + (n - lo) = n by omega]; exact h3
    rw [dm_pow_add] at this
    obtain ⟨u, v, e, hu, hv⟩ := this
    exact ⟨u, v, e, hu, (dm_opt_pow A more v).mpr ⟨n - lo, by omega, hv⟩⟩
  · rintro ⟨u, v, e, hu, hv⟩
    obtain ⟨n, hn, h⟩ := (dm_opt_pow A more v).mp hv
    refine ⟨lo + n, by omega, Or.inr (by omega), ?_⟩
    rw [dm_pow_add]
    exact ⟨u, v, e, hu, h⟩
