/-! equal answers out of equal languages -/
def eq_G (n : Nat) (G H : Nat → Nat → Bool) : Prop := ∀ i k, i ≤ n → G i k = H i k

theorem dm_cut_eq {t s : Nat → Nat} {i k : Nat} (h : ∀ j, j < i + k → t j = s j) : dm_cut t i k = dm_cut s i k := by
  unfold dm_cut
  apply List.map_congr_left
  intro j hj
  exact h _ (by have := List.mem_range.mp hj; omega)

theorem dm_cut_sg {t : Nat → Nat} {i k : Nat} (h : ∀ j, j < i + k → 32 ≤ t j ∧ t j < 127) : dm_sg (dm_cut t i k) := by
  intro c hc
  obtain ⟨j, hj, rfl⟩ := List.mem_map.mp hc
  exact h _ (by have := List.mem_range.mp hj; omega)

theorem eq_tab {n : Nat} {tx ty : Nat → Nat} {B L : dm_L} {u v : Nat → Int32} {at_ : Nat} (hn : n ≤ 24) (hB : dm_sm B L) (ht : ∀ j, j < n → tx j = ty j ∧ 32 ≤ tx j ∧ tx j < 127) (h1 : ro_is n 24 tx B u) (h2 : mo_is n ty L (fun j => v (at_ + j))) : eq_G n (fun i k => bt (u i) k) (mo_G v at_) := by
  intro i k hi
  show bt (u i) k = bt (v (at_ + i)) (i + k)
  have a := h1 i hi k
  have b : bt (v (at_ + i)) (i + k) = true ↔ i ≤ i + k ∧ i + k ≤ n ∧ L (dm_cut ty i (i + k - i)) := h2 i hi (i + k)
  rw [show i + k - i = k by omega] at b
  apply Bool.eq_iff_iff.mpr
  rw [a]
  refine Iff.trans ?_ b.symm
  constructor
  · rintro ⟨h, hb⟩
    have hk : i + k ≤ n := by omega
    refine ⟨by omega, hk, ?_⟩
    rw [← dm_cut_eq (t := tx) (fun j hj => (ht j (by omega)).1)]
    exact (hB _ (dm_cut_sg (fun j hj => (ht j (by omega)).2))).mp hb
  · rintro ⟨-, h, hl⟩
    refine ⟨by omega, (hB _ (dm_cut_sg (fun j hj => (ht j (by omega)).2))).mpr ?_⟩
    rw [dm_cut_eq (s := ty) (fun j hj => (ht j (by omega)).1)]
    exact hl

theorem eq_find {n : Nat} {G H : Nat → Nat → Bool} (h : eq_G n G H) : ∀ f i, f + i ≤ n + 1 → sp_find G f i = sp_find H f i
  | 0, _, _ => rfl
  | f + 1, i, hf => by
    show (if sp_lg (G i) 25 = 0 then sp_find G f (i + 1) else nI (100 * i + i + (sp_lg (G i) 25 - 1))) = (if sp_lg (H i) 25 = 0 then sp_find H f (i + 1) else nI (100 * i + i + (sp_lg (H i) 25 - 1)))
    rw [show G i = H i from funext (fun k => h i k (by omega)), eq_find h f (i + 1) (by omega)]

theorem eq_count {n : Nat} {G H : Nat → Nat → Bool} (h : eq_G n G H) : ∀ f i, sp_count G n f i = sp_count H n f i
  | 0, _ => rfl
  | f + 1, i => by
    show (if i ≤ n then (if sp_lg (G i) 25 = 0 then 0 else 1) + sp_count G n f (i + max (sp_lg (G i) 25 - 1) 1) else 0) = (if i ≤ n then (if sp_lg (H i) 25 = 0 then 0 else 1) + sp_count H n f (i + max (sp_lg (H i) 25 - 1) 1) else 0)
    by_cases hi : i ≤ n
    · rw [if_pos hi, if_pos hi, show G i = H i from funext (fun k => h i k hi), eq_count h f]
    · rw [if_neg hi, if_neg hi]

theorem eq_any {n : Nat} {G H : Nat → Nat → Bool} (h : eq_G n G H) {e : Nat} (he : e ≤ n) : sp_any G e = sp_any H e := by
  apply Bool.eq_iff_iff.mpr
  unfold sp_any
  rw [List.any_eq_true, List.any_eq_true]
  constructor
  · rintro ⟨b, hb, hg⟩
    have := List.mem_range.mp hb
    exact ⟨b, hb, by rw [← h b _ (by omega)]; exact hg⟩
  · rintro ⟨b, hb, hg⟩
    have := List.mem_range.mp hb
    exact ⟨b, hb, by rw [h b _ (by omega)]; exact hg⟩

theorem eq_ear {n : Nat} {G H : Nat → Nat → Bool} (h : eq_G n G H) : ∀ f e, f + e ≤ n + 1 → sp_ear G f e = sp_ear H f e
  | 0, _, _ => rfl
  | f + 1, e, hf => by
    show (if sp_any G e = true then nI e else sp_ear G f (e + 1)) = (if sp_any H e = true then nI e else sp_ear H f (e + 1))
    rw [eq_any h (by omega), eq_ear h f (e + 1) (by omega)]

def wd_o : Nat → Nat
  | 0 => 0
  | k + 1 => 3 * wd_o k + 1

theorem wd_o_s : ∀ k, wd_o (k + 1) = wd_o k + 3 ^ k
  | 0 => rfl
  | k + 1 => by
    show 3 * wd_o (k + 1) + 1 = wd_o (k + 1) + 3 ^ (k + 1)
    have e := wd_o_s k
    have f : wd_o (k + 1) = 3 * wd_o k + 1 := rfl
    rw [Nat.pow_succ]
    omega

theorem wd_b_no : ∀ k w, w < 3 ^ k → wd_no (wd_b k w) = wd_o k + w
  | 0, w, h => by
    have : w = 0 := by rw [Nat.pow_zero] at h; omega
    subst this
    rfl
  | k + 1, w, h => by
    show wd_no (wd_b k (w / 3) ++ [97 + w % 3]) = 3 * wd_o k + 1 + w
    rw [wd_no_snoc, wd_b_no k (w / 3) (by rw [Nat.pow_succ] at h; omega)]
    omega

theorem wd_b_w {k w : Nat} (hk : k ≤ 4) : wd_w (wd_b k w) := by
  refine ⟨by rw [wd_b_len]; exact hk, fun c hc => ?_⟩
  obtain ⟨j, hj, e⟩ := List.getElem_of_mem hc
  have hj2 : j < k := by rw [wd_b_len] at hj; exact hj
  have z := wd_b_in k w j hj2
  rw [List.getD_eq_getElem?_getD, List.getElem?_eq_getElem hj] at z
  have z : 97 ≤ (wd_b k w)[j] ∧ (wd_b k w)[j] ≤ 99 := z
  rw [e] at z
  exact z

theorem sp_fst_congr {g h : Nat → Bool} : ∀ f s, (∀ k, s ≤ k → k < s + f → g k = h k) → sp_fst g f s = sp_fst h f s
  | 0, _, _ => rfl
  | f + 1, s, e => by
    show (if g s = true then some s else sp_fst g f (s + 1)) = (if h s = true then some s else sp_fst h f (s + 1))
    rw [e s (by omega) (by omega), sp_fst_congr f (s + 1) (fun k h1 h2 => e k (by omega) (by omega))]

theorem sp_fst_shift (h : Nat → Bool) (s : Nat) : ∀ f j, sp_fst h f (s + j) = (sp_fst (fun w => h (s + w)) f j).map (fun w => s + w)
  | 0, _ => rfl
  | f + 1, j => by
    show (if h (s + j) = true then some (s + j) else sp_fst h f (s + j + 1)) = (if h (s + j) = true then some j else sp_fst (fun w => h (s + w)) f (j + 1)).map (fun w => s + w)
    by_cases e : h (s + j) = true
    · rw [if_pos e, if_pos e]
      rfl
    · rw [if_neg e, if_neg e]
      exact sp_fst_shift h s f (j + 1)

theorem sp_fst_app (h : Nat → Bool) : ∀ a b s, sp_fst h (a + b) s = (if (sp_fst h a s).isSome = true then sp_fst h a s else sp_fst h b (s + a))
  | 0, b, s => by
    rw [Nat.zero_add]
    rfl
  | a + 1, b, s => by
    rw [show a + 1 + b = (a + b) + 1 by omega]
    show (if h s = true then some s else sp_fst h (a + b) (s + 1)) = (if (if h s = true then some s else sp_fst h a (s + 1)).isSome = true then (if h s = true then some s else sp_fst h a (s + 1)) else sp_fst h b (s + (a + 1)))
    by_cases e : h s = true
    · rw [if_pos e, if_pos e]
      rfl
    · rw [if_neg e, if_neg e, sp_fst_app h a b (s + 1), show s + 1 + a = s + (a + 1) by omega]

theorem wd_o_mono : ∀ f k, wd_o k ≤ wd_o (k + f)
  | 0, _ => Nat.le_refl _
  | f + 1, k => by
    have := wd_o_mono f k
    have e := wd_o_s (k + f)
    show wd_o k ≤ wd_o (k + f + 1)
    generalize 3 ^ (k + f) = z at e
    omega

theorem sp_wd_fst {g : Nat → Nat → Bool} {h : Nat → Bool} : ∀ f k, (∀ j w, j < k + f → w < 3 ^ j → h (wd_o j + w) = g j w) → sp_fst h (wd_o (k + f) - wd_o k) (wd_o k) = (sp_wd g f k).map (fun p => wd_o p.1 + p.2)
  | 0, k, _ => by
    rw [Nat.add_zero, Nat.sub_self]
    rfl
  | f + 1, k, e => by
    have m := wd_o_mono f (k + 1)
    have s := wd_o_s k
    have ih := sp_wd_fst (g := g) (h := h) f (k + 1) (fun j w h1 h2 => e j w (by omega) h2)
    have m2 : wd_o (k + 1 + f) - wd_o k = 3 ^ k + (wd_o (k + 1 + f) - wd_o (k + 1)) := by
      generalize 3 ^ k = z at s
      omega
    rw [show k + (f + 1) = k + 1 + f by omega, m2, sp_fst_app, ← s, ih]
    have e2 : sp_fst h (3 ^ k) (wd_o k) = (sp_fst (g k) (3 ^ k) 0).map (fun w => wd_o k + w) := by
      have q := sp_fst_shift h (wd_o k) (3 ^ k) 0
      rw [Nat.add_zero] at q
      rw [q, sp_fst_congr (g := fun w => h (wd_o k + w)) (h := g k) (3 ^ k) 0 (fun w _ hw => e k w (by omega) (by omega))]
    rw [e2]
    show _ = (if (sp_fst (g k) (3 ^ k) 0).isSome = true then some (k, (sp_fst (g k) (3 ^ k) 0).getD 0) else sp_wd g f (k + 1)).map (fun p => wd_o p.1 + p.2)
    cases sp_fst (g k) (3 ^ k) 0 with
    | none => rfl
    | some w => rfl

theorem sp_wd_lt {g : Nat → Nat → Bool} : ∀ {f s k w : Nat}, sp_wd g f s = some (k, w) → k < s + f ∧ w < 3 ^ k
  | 0, s, k, w, h => by cases h
  | f + 1, s, k, w, h => by
    by_cases e : (sp_fst (g s) (3 ^ s) 0).isSome = true
    · have q : sp_wd g (f + 1) s = some (s, (sp_fst (g s) (3 ^ s) 0).getD 0) := if_pos e
      rw [q] at h
      injection h with h
      injection h with h1 h2
      subst h1
      refine ⟨by omega, ?_⟩
      cases o : sp_fst (g s) (3 ^ s) 0 with
      | none => rw [o] at e; cases e
      | some x =>
        rw [o] at h2
        have h2 : x = w := h2
        subst h2
        have := sp_fst_lt o
        omega
    · have q : sp_wd g (f + 1) s = sp_wd g f (s + 1) := if_neg e
      rw [q] at h
      have := sp_wd_lt h
      exact ⟨by omega, this.2⟩

theorem wd_up_o : ∀ n, n ≤ 4 → wd_up n = wd_o (n + 1) := by decide

theorem eq_words {n nl nl' wn' : Nat} {fw : Nat → Bool} {g : Nat → Nat → Bool} {le le' wo wo' : Nat → Nat} {r r' : Int32} (hn : n ≤ 4) (hg : ∀ j w, j ≤ n → w < 3 ^ j → fw (wd_no (wd_b j w)) = g j w) (hk : sp_kept (sp_fst fw (wd_up n) 0) nl le r nl' le') (hw : sp_wk (sp_wd g (n + 1) 0) nl wo r' wn' wo') (hl : ∀ i, i < nl → le i = wo i) (h4 : nl ≤ 4) : r = r' ∧ nl' = wn' ∧ (∀ i, i < nl' → le' i = wo' i) ∧ nl' ≤ 4 := by
  have e := sp_wd_fst (g := g) (h := fw) (n + 1) 0 (fun j w h1 h2 => by rw [← wd_b_no j w h2]; exact hg j w (by omega) h2)
  rw [show wd_o (0 + (n + 1)) - wd_o 0 = wd_up n by rw [wd_up_o n hn, Nat.zero_add]; rfl] at e
  have e : sp_fst fw (wd_up n) 0 = (sp_wd g (n + 1) 0).map (fun p => wd_o p.1 + p.2) := e
  rw [e] at hk
  rcases hw with ⟨w1, w2, w3, w4⟩ | ⟨k, w, w1, w2, w3, w4⟩
  · rw [w1] at hk
    rcases hk with ⟨-, k2, k3, k4⟩ | ⟨W, -, k2, -⟩
    · rw [k2, w2, k3, w3, k4, w4]
      exact ⟨rfl, rfl, hl, h4⟩
    · cases k2
  · rw [w1] at hk
    obtain ⟨b1, b2⟩ := sp_wd_lt w1
    rcases hk with ⟨k1, -⟩ | ⟨W, k1, k2, k3, k4, k5⟩
    · cases k1
    · have k2 : some (wd_o k + w) = some (wd_no W) := k2
      injection k2 with k2
      rw [← wd_b_no k w b2] at k2
      have bw := wd_b_w (k := k) (w := w) (by omega)
      have eW : wd_b k w = W := wd_inj _ _ _ rfl bw.2 k1.2 k2
      subst eW
      rw [wd_b_len] at k3 k4
      refine ⟨by rw [k3, w2], by rw [k4, w3], fun i hi => ?_, by omega⟩
      have hi2 : i < k := by omega
      rw [k5 i (by rw [wd_b_len]; exact hi2), w4 i hi2, List.getD_eq_getElem?_getD, List.getElem?_eq_getElem (by rw [wd_b_len]; exact hi2)]
      rfl

theorem eq_cl {B L : dm_L} (hB : dm_sm B L) {fw : Nat → Bool} (hf : ∀ w, wd_w w → (fw (wd_no w) = true ↔ B w)) {j w : Nat} (hj : j ≤ 4) : fw (wd_no (wd_b j w)) = sp_cl L (wd_b j w) := by
  have bw := wd_b_w (k := j) (w := w) hj
  apply Bool.eq_iff_iff.mpr
  rw [hf _ bw, sp_cl_t]
  exact hB _ (fun c hc => by have := bw.2 c hc; omega)
