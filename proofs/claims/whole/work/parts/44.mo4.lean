/-- what a node fits, by what its parts fit -/
def nd_sem (kk a b mm : Nat) (hs : Nat → Bool) (L : Nat → dm_L) : dm_L := if kk = 0 then dm_eps else if kk = 1 then (fun w => ∃ c, w = [c] ∧ hs c = true) else if kk = 2 then dm_cat (L a) (L b) else if kk = 3 then dm_and (L a) (L b) else if kk = 4 then dm_or (L a) (L b) else if kk = 5 then dm_not (L a) else if kk = 6 then dm_rep (L a) 0 0 else if kk = 7 then dm_rep (L a) 1 0 else if kk = 8 then dm_or (L a) dm_eps else dm_rep (L a) b (mo_M mm)
def nd_hs (se : Nat → Int32) (n c : Nat) : Bool := bt (se (3 * n + ((c - 32) / 32))) ((c - 32) % 32)
theorem mo_one_f {en : Nat} {t : Nat → Nat} {i : Nat} {hs : Nat → Bool} (h : i < en → hs (t i) = false) : mo_at en t i (fun w => ∃ c, w = [c] ∧ hs c = true) 0 := by
  intro j
  rw [b_0]
  constructor
  · intro z; cases z
  · rintro ⟨h1, h2, c, h3, h4⟩
    have hl := congrArg List.length h3
    rw [dm_cut_len] at hl
    have hl : j - i = 1 := hl
    rw [hl, dm_cut_1] at h3
    have : t i = c := by injection h3
    rw [← this, h (by omega)] at h4
    cases h4
theorem mo_one_t {en : Nat} {t : Nat → Nat} {i : Nat} {hs : Nat → Bool} (hen : en ≤ 24) (hi : i < en) (h : hs (t i) = true) : mo_at en t i (fun w => ∃ c, w = [c] ∧ hs c = true) ((2 : Int32) <<< (nI i &&& 31)) := by
  intro j
  rw [mo_two_bt (by omega), decide_eq_true_eq]
  constructor
  · rintro rfl
    exact ⟨by omega, by omega, t i, by rw [show i + 1 - i = 1 by omega, dm_cut_1], h⟩
  · rintro ⟨h1, h2, c, h3, h4⟩
    have hl := congrArg List.length h3
    rw [dm_cut_len] at hl
    have hl : j - i = 1 := hl
    omega
def nd_fine (k kk a b mm : Nat) : Prop := kk ≤ 9 ∧ a < 128 ∧ b < 128 ∧ (2 ≤ kk → a < k) ∧ (kk = 2 ∨ kk = 3 ∨ kk = 4 → b < k) ∧ (kk = 9 → b < 10 ∧ mm ≤ 10 ∧ (mm < 10 → b ≤ mm))

set_option maxHeartbeats 4000000 in
set_option maxRecDepth 100000 in
theorem cm_Mo_work (l : Launch) (D : va_G) (q : Nat → ClassId) (ho mb mt mw mc mk m1 m2 ms mu mi mr mn mp mj me mh : Nat) (sz ln wn dp st_ im en : Nat) (lo_ : Int32) (ex ds : Bool) (bs k kk a_ b_ mm : Nat) (t kd on tw : Nat → Nat) (se es th : Nat → Int32) (hbs : bs ≤ 128) (hk : k < 128) (hen : en ≤ 24) (hkd : kd (bs + k) = kk) (hon : on (bs + k) = a_) (htw : tw (bs + k) = b_) (hmm : kk = 9 → se (3 * (bs + k)) = nI mm) (hnf : nd_fine k kk a_ b_ mm) (htc : ∀ j, j < en → 32 ≤ t j ∧ t j < 128) : kz_Mv (S := (Nat → Int32) × (Nat → Int32)) l ky_Mo_work kb_Mo_work 9 2 D q [.ref ho, .int (nI bs), .int (nI k)] [(ho, .inr (6, [.ref mb, .int (nI sz), .ref mt, .int (nI ln), .ref mw, .int (nI wn), .ref mc, .ref mk, .ref m1, .ref m2, .ref ms, .int (nI dp), .ref mu, .ref mi, .ref mr, .ref mn, .ref mp, .int (nI st_), .int lo_, .int (nI im), .int (nB ex), .ref mj, .int (nI en), .ref me, .ref mh, .int (nB ds)])), (mk, .inl (q 0, 384, .inl (fun x_ => nI (kd x_)))), (m1, .inl (q 0, 384, .inl (fun x_ => nI (on x_)))), (m2, .inl (q 0, 384, .inl (fun x_ => nI (tw x_)))), (ms, .inl (q 0, 1152, .inl se)), (mj, .inl (q 0, 24, .inl (fun x_ => nI (t x_)))), (me, .inl (q 0, 3200, .inl es)), (mh, .inl (q 0, 25, .inl th))] (fun u => (∀ j, (j < 25 * k ∨ 25 * k + 25 ≤ j) → u.1 j = es j) ∧ ∀ L : Nat → dm_L, (∀ n, n < k → mo_is en t (L n) (fun j => es (25 * n + j))) → mo_is en t (nd_sem kk a_ b_ mm (nd_hs se (bs + k)) L) (fun j => u.1 (25 * k + j))) (fun u => [(ho, .inr (6, [.ref mb, .int (nI sz), .ref mt, .int (nI ln), .ref mw, .int (nI wn), .ref mc, .ref mk, .ref m1, .ref m2, .ref ms, .int (nI dp), .ref mu, .ref mi, .ref mr, .ref mn, .ref mp, .int (nI st_), .int lo_, .int (nI im), .int (nB ex), .ref mj, .int (nI en), .ref me, .ref mh, .int (nB ds)])), (mk, .inl (q 0, 384, .inl (fun x_ => nI (kd x_)))), (m1, .inl (q 0, 384, .inl (fun x_ => nI (on x_)))), (m2, .inl (q 0, 384, .inl (fun x_ => nI (tw x_)))), (ms, .inl (q 0, 1152, .inl se)), (mj, .inl (q 0, 24, .inl (fun x_ => nI (t x_)))), (me, .inl (q 0, 3200, .inl u.1)), (mh, .inl (q 0, 25, .inl u.2))]) := by
  intro sz_
  refine kz_go (by decide +kernel) (Nat.le_of_ble_eq_true rfl) ?_
  intro p e s m below meth c ls args A Q H locs hQ hA X U hl
  have hx := X.1
  have hb := X.2.1
  have hl : lv_has ls 9 [(0, .ref ho), (1, .int (nI bs)), (2, .int (nI k))] := hl
  have hkk9 := hnf.1
  have ha128 := hnf.2.1
  have hb128 := hnf.2.2.1
  refine lv_aload_n hx hb kd_Mo_work_0 rfl (lv_at hl 0 rfl) ?_
  refine kg_Mo_25 X U 0 rfl rfl kd_Mo_work_1 ?_
  refine lv_iload_n hx hb kd_Mo_work_4 rfl (lv_at hl 1 rfl) ?_
  refine lv_iload_n hx hb kd_Mo_work_5 rfl (lv_at hl 2 rfl) ?_
  refine kz_iadd X kd_Mo_work_6 ?_
  refine kz_top (y := nI (bs + k)) rfl ?_
  refine kz_iald (k := bs + k) X U 2 rfl (by omega) (by omega) kd_Mo_work_7 ?_
  refine kz_top (y := nI (on (bs + k))) rfl ?_
  refine kz_top (y := nI a_) (by rw [hon]) ?_
  refine lv_istore_n hx hb kd_Mo_work_8 rfl hl (by decide) rfl (fun ls hl => ?_)
  have hl : lv_has ls 9 [(3, .int (nI a_)), (0, .ref ho), (1, .int (nI bs)), (2, .int (nI k))] := hl
  refine lv_aload_n hx hb kd_Mo_work_9 rfl (lv_at hl 1 rfl) ?_
  refine kg_Mo_28 X U 0 rfl rfl kd_Mo_work_10 ?_
  refine lv_iload_n hx hb kd_Mo_work_13 rfl (lv_at hl 2 rfl) ?_
  refine lv_iload_n hx hb kd_Mo_work_14 rfl (lv_at hl 3 rfl) ?_
  refine kz_iadd X kd_Mo_work_15 ?_
  refine kz_top (y := nI (bs + k)) rfl ?_
  refine kz_iald (k := bs + k) X U 3 rfl (by omega) (by omega) kd_Mo_work_16 ?_
  refine kz_top (y := nI (tw (bs + k))) rfl ?_
  refine kz_top (y := nI b_) (by rw [htw]) ?_
  refine lv_istore hx hb kd_Mo_work_17 hl (by decide) rfl (fun ls hl => ?_)
  have hl : lv_has ls 9 [(4, .int (nI b_)), (3, .int (nI a_)), (0, .ref ho), (1, .int (nI bs)), (2, .int (nI k))] := hl
  refine lv_aload_n hx hb kd_Mo_work_19 rfl (lv_at hl 2 rfl) ?_
  refine kg_Mo_22 X U 0 rfl rfl kd_Mo_work_20 ?_
  refine lv_iload_n hx hb kd_Mo_work_23 rfl (lv_at hl 3 rfl) ?_
  refine lv_iload_n hx hb kd_Mo_work_24 rfl (lv_at hl 4 rfl) ?_
  refine kz_iadd X kd_Mo_work_25 ?_
  refine kz_top (y := nI (bs + k)) rfl ?_
  refine kz_iald (k := bs + k) X U 1 rfl (by omega) (by omega) kd_Mo_work_26 ?_
  refine kz_top (y := nI (kd (bs + k))) rfl ?_
  refine kz_top (y := nI kk) (by rw [hkd]) ?_
  refine lv_istore hx hb kd_Mo_work_27 hl (by decide) rfl (fun ls hl => ?_)
  have hl : lv_has ls 9 [(5, .int (nI kk)), (4, .int (nI b_)), (3, .int (nI a_)), (0, .ref ho), (1, .int (nI bs)), (2, .int (nI k))] := hl
  refine lv_iload hx hb kd_Mo_work_29 (lv_at hl 0 rfl) ?_
  refine kz_bp X 9 kd_Mo_work_31 (by decide) ?_
  refine kz_icne X (by first | omega | (have := hnf.1; have := hnf.2.1; have := hnf.2.2.1; omega) | (have := htc i (by omega); omega)) (by first | omega | (have := hnf.1; have := hnf.2.1; have := hnf.2.2.1; omega) | (have := htc i (by omega); omega)) kd_Mo_work_33 rfl (fun h33 => ?_) (fun h33 => ?_)
  · refine lv_iload hx hb kd_Mo_work_54 (lv_at hl 0 rfl) ?_
    refine kz_bp X 6 kd_Mo_work_56 (by decide) ?_
    refine kz_iceq X (by first | omega | (have := hnf.1; have := hnf.2.1; have := hnf.2.2.1; omega) | (have := htc i (by omega); omega)) (by first | omega | (have := hnf.1; have := hnf.2.1; have := hnf.2.2.1; omega) | (have := htc i (by omega); omega)) kd_Mo_work_58 rfl (fun h58 => ?_) (fun h58 => ?_)
    · refine lv_aload_n hx hb kd_Mo_work_68 rfl (lv_at hl 3 rfl) ?_
      refine lv_iload_n hx hb kd_Mo_work_69 rfl (lv_at hl 5 rfl) ?_
      refine lv_iload_n hx hb kd_Mo_work_70 rfl (lv_at hl 2 rfl) ?_
      refine lv_iload hx hb kd_Mo_work_71 (lv_at hl 0 rfl) ?_
      refine kz_bp X 6 kd_Mo_work_73 (by decide) ?_
      refine kz_icne X (by first | omega | (have := hnf.1; have := hnf.2.1; have := hnf.2.2.1; omega) | (have := htc i (by omega); omega)) (by first | omega | (have := hnf.1; have := hnf.2.1; have := hnf.2.2.1; omega) | (have := htc i (by omega); omega)) kd_Mo_work_75 rfl (fun h75 => absurd h75 (by omega)) (fun h75 => ?_)
      refine kz_ic X 0 kd_Mo_work_78 (by decide) ?_
      refine lv_goto hx hb kd_Mo_work_79 rfl ?_
      refine kz_bp X 10 kd_Mo_work_83 (by decide) ?_
      refine kz_cVv (av := [.int (nI k), .int (nI a_), .int (nI 0), .int (nI 10)]) (rest := []) (wr := [(mk, .inl (q 0, 384, .inl (fun x_ => nI (kd x_)))), (m1, .inl (q 0, 384, .inl (fun x_ => nI (on x_)))), (m2, .inl (q 0, 384, .inl (fun x_ => nI (tw x_)))), (ms, .inl (q 0, 1152, .inl se)), (mj, .inl (q 0, 24, .inl (fun x_ => nI (t x_))))]) X U hl.1 (cm_Mo_times l D q ho mb mt mw mc mk m1 m2 ms mu mi mr mn mp mj me mh sz ln wn dp st_ im en lo_ ex ds k a_ 0 10 t es th hk (hnf.2.2.2.1 (by omega)) hen (by omega) (by omega) (fun z => absurd z (by omega))) (by decide) (by decide) ⟨by decide, by decide⟩ tb_610 tb_612 tb_s39 0 rfl rfl tb_11 tb_613 kq_Mo_times [0, 6, 7] [1, 2, 3, 4, 5] (by decide) rfl rfl (by decide) (by decide) rfl (Nat.le_of_ble_eq_true rfl) kd_Mo_work_85 (fun u H locs hu U => ?_)
      have U : kz_U D q s A [(ho, .inr (6, [.ref mb, .int (nI sz), .ref mt, .int (nI ln), .ref mw, .int (nI wn), .ref mc, .ref mk, .ref m1, .ref m2, .ref ms, .int (nI dp), .ref mu, .ref mi, .ref mr, .ref mn, .ref mp, .int (nI st_), .int lo_, .int (nI im), .int (nB ex), .ref mj, .int (nI en), .ref me, .ref mh, .int (nB ds)])), (mk, .inl (q 0, 384, .inl (fun x_ => nI (kd x_)))), (m1, .inl (q 0, 384, .inl (fun x_ => nI (on x_)))), (m2, .inl (q 0, 384, .inl (fun x_ => nI (tw x_)))), (ms, .inl (q 0, 1152, .inl se)), (mj, .inl (q 0, 24, .inl (fun x_ => nI (t x_)))), (me, .inl (q 0, 3200, .inl u.1)), (mh, .inl (q 0, 25, .inl u.2))] H locs := U.sub [5, 0, 1, 2, 3, 4, 6, 7] (by decide) rfl
      refine kz_ic X 0 kd_Mo_work_88 (by decide) ?_
      refine lv_istore hx hb kd_Mo_work_89 hl (by decide) rfl (fun ls hl => ?_)
      have hl : lv_has ls 9 [(6, .int (nI 0)), (5, .int (nI kk)), (4, .int (nI b_)), (3, .int (nI a_)), (0, .ref ho), (1, .int (nI bs)), (2, .int (nI k))] := hl
      have loop91 : ∀ (fuel : Nat) (i : Nat) (e2 : Nat → Int32) (ls : Array Slot) (H : Heap) (locs : List Loc), en + 2 - i < fuel → (i ≤ en + 1) → (∀ j, (j < 25 * k ∨ 25 * k + 25 ≤ j) → e2 j = es j) → (∀ L : Nat → dm_L, (∀ n, n < k → mo_is en t (L n) (fun j => es (25 * n + j))) → ∀ j, j ≤ en → (j < i ∨ kk = 6 ∨ kk = 7 ∨ kk = 9) → mo_at en t j (nd_sem kk a_ b_ mm (nd_hs se (bs + k)) L) (e2 (25 * k + j))) → lv_has ls 9 [(6, .int (nI i)), (5, .int (nI kk)), (4, .int (nI b_)), (3, .int (nI a_)), (0, .ref ho), (1, .int (nI bs)), (2, .int (nI k))] → kz_U D q s A [(ho, .inr (6, [.ref mb, .int (nI sz), .ref mt, .int (nI ln), .ref mw, .int (nI wn), .ref mc, .ref mk, .ref m1, .ref m2, .ref ms, .int (nI dp), .ref mu, .ref mi, .ref mr, .ref mn, .ref mp, .int (nI st_), .int lo_, .int (nI im), .int (nB ex), .ref mj, .int (nI en), .ref me, .ref mh, .int (nB ds)])), (mk, .inl (q 0, 384, .inl (fun x_ => nI (kd x_)))), (m1, .inl (q 0, 384, .inl (fun x_ => nI (on x_)))), (m2, .inl (q 0, 384, .inl (fun x_ => nI (tw x_)))), (ms, .inl (q 0, 1152, .inl se)), (mj, .inl (q 0, 24, .inl (fun x_ => nI (t x_)))), (me, .inl (q 0, 3200, .inl e2)), (mh, .inl (q 0, 25, .inl u.2))] H locs → W p l e (kz_rm 2) s m args below meth c H locs 0 0 Q (F0 m 91 ls []) := by
        intro fuel
        induction fuel with
        | zero => intro i e2 ls H locs hme; exact absurd hme (Nat.not_lt_zero _)
        | succ fuel ih91 =>
          intro i e2 ls H locs hme hi hout hin hl U
          refine lv_iload hx hb kd_Mo_work_91 (lv_at hl 0 rfl) ?_
          refine lv_aload_n hx hb kd_Mo_work_93 rfl (lv_at hl 4 rfl) ?_
          refine kg_Mo_142 X U 0 rfl rfl kd_Mo_work_94 ?_
          refine kz_icgt X (by first | omega | (have := hnf.1; have := hnf.2.1; have := hnf.2.2.1; omega) | (have := htc i (by omega); omega)) (by first | omega | (have := hnf.1; have := hnf.2.1; have := hnf.2.2.1; omega) | (have := htc i (by omega); omega)) kd_Mo_work_97 rfl (fun h97 => ?_) (fun h97 => ?_)
          · exact kz_ev hQ hA X U ((e2, u.2)) rfl (⟨hout, fun L hL j hj => hin L hL j hj (by omega)⟩) kd_Mo_work_353
          · have hE : ∀ L : Nat → dm_L, (∀ n, n < k → mo_is en t (L n) (fun j => es (25 * n + j))) → ∀ n, n < k → mo_is en t (L n) (fun j => e2 (25 * n + j)) := fun L hL n hn => mo_is_congr (hL n hn) (fun j hj => hout (25 * n + j) (Or.inl (by omega)))
            refine lv_aload_n hx hb kd_Mo_work_100 rfl (lv_at hl 4 rfl) ?_
            refine kg_Mo_52 X U 0 rfl rfl kd_Mo_work_101 ?_
            refine kz_bp X 25 kd_Mo_work_104 (by decide) ?_
            refine lv_iload_n hx hb kd_Mo_work_106 rfl (lv_at hl 3 rfl) ?_
            refine kz_imul X kd_Mo_work_107 ?_
            refine kz_top (y := nI (25 * a_)) rfl ?_
            refine lv_iload hx hb kd_Mo_work_108 (lv_at hl 0 rfl) ?_
            refine kz_iadd X kd_Mo_work_110 ?_
            refine kz_top (y := nI (25 * a_ + i)) rfl ?_
            refine kz_iald (k := 25 * a_ + i) X U 6 rfl (by omega) (by omega) kd_Mo_work_111 ?_
            refine lv_istore hx hb kd_Mo_work_112 hl (by decide) rfl (fun ls hl => ?_)
            have hl : lv_has ls 9 [(7, .int (e2 (25 * a_ + i))), (6, .int (nI i)), (5, .int (nI kk)), (4, .int (nI b_)), (3, .int (nI a_)), (0, .ref ho), (1, .int (nI bs)), (2, .int (nI k))] := hl
            refine kz_bp X 25 kd_Mo_work_114 (by decide) ?_
            refine lv_iload_n hx hb kd_Mo_work_116 rfl (lv_at hl 7 rfl) ?_
            refine kz_imul X kd_Mo_work_117 ?_
            refine kz_top (y := nI (25 * k)) rfl ?_
            refine lv_iload hx hb kd_Mo_work_118 (lv_at hl 1 rfl) ?_
            refine kz_iadd X kd_Mo_work_120 ?_
            refine kz_top (y := nI (25 * k + i)) rfl ?_
            refine lv_istore hx hb kd_Mo_work_121 hl (by decide) rfl (fun ls hl => ?_)
            have hl : lv_has ls 9 [(8, .int (nI (25 * k + i))), (7, .int (e2 (25 * a_ + i))), (6, .int (nI i)), (5, .int (nI kk)), (4, .int (nI b_)), (3, .int (nI a_)), (0, .ref ho), (1, .int (nI bs)), (2, .int (nI k))] := hl
            refine lv_iload hx hb kd_Mo_work_123 (lv_at hl 3 rfl) ?_
            rcases (show kk = 6 from by omega) with hk125
            · refine kz_top (y := nI 6) (by rw [hk125]) ?_
              refine lv_tableIn hx hb kd_Mo_work_125 (by decide) (by decide) rfl rfl ?_
              refine lv_iinc (k := 2) (v := nI (i + 1)) hx hb kd_Mo_work_347 hl rfl (nI_add i 1) (by decide) rfl (fun ls hl => ?_)
              have hl : lv_has ls 9 [(6, .int (nI (i + 1))), (8, .int (nI (25 * k + i))), (7, .int (e2 (25 * a_ + i))), (5, .int (nI kk)), (4, .int (nI b_)), (3, .int (nI a_)), (0, .ref ho), (1, .int (nI bs)), (2, .int (nI k))] := hl
              refine lv_goto hx hb kd_Mo_work_350 rfl ?_
              exact ih91 (i + 1) e2 _ _ _ (by omega) (by omega) hout (fun L hL j hj _ => hin L hL j hj (by omega)) (lv_sub hl [0, 3, 4, 5, 6, 7, 8] rfl) U
      exact loop91 _ 0 u.1 _ _ _ (Nat.lt_succ_self _) (by omega) hu.1 (fun L hL j hj _ => by rw [h58]; exact (hu.2 (L a_) (hL a_ (hnf.2.2.2.1 (by omega)))) j hj) (lv_sub hl [0, 1, 2, 3, 4, 5, 6] rfl) U
    · refine lv_iload hx hb kd_Mo_work_61 (lv_at hl 0 rfl) ?_
      refine kz_bp X 7 kd_Mo_work_63 (by decide) ?_
      refine kz_icne X (by first | omega | (have := hnf.1; have := hnf.2.1; have := hnf.2.2.1; omega) | (have := htc i (by omega); omega)) (by first | omega | (have := hnf.1; have := hnf.2.1; have := hnf.2.2.1; omega) | (have := htc i (by omega); omega)) kd_Mo_work_65 rfl (fun h65 => ?_) (fun h65 => ?_)
      · refine kz_ic X 0 kd_Mo_work_88 (by decide) ?_
        refine lv_istore hx hb kd_Mo_work_89 hl (by decide) rfl (fun ls hl => ?_)
        have hl : lv_has ls 9 [(6, .int (nI 0)), (5, .int (nI kk)), (4, .int (nI b_)), (3, .int (nI a_)), (0, .ref ho), (1, .int (nI bs)), (2, .int (nI k))] := hl
        have loop91 : ∀ (fuel : Nat) (i : Nat) (e2 : Nat → Int32) (ls : Array Slot) (H : Heap) (locs : List Loc), en + 2 - i < fuel → (i ≤ en + 1) → (∀ j, (j < 25 * k ∨ 25 * k + 25 ≤ j) → e2 j = es j) → (∀ L : Nat → dm_L, (∀ n, n < k → mo_is en t (L n) (fun j => es (25 * n + j))) → ∀ j, j ≤ en → (j < i ∨ kk = 6 ∨ kk = 7 ∨ kk = 9) → mo_at en t j (nd_sem kk a_ b_ mm (nd_hs se (bs + k)) L) (e2 (25 * k + j))) → lv_has ls 9 [(6, .int (nI i)), (5, .int (nI kk)), (4, .int (nI b_)), (3, .int (nI a_)), (0, .ref ho), (1, .int (nI bs)), (2, .int (nI k))] → kz_U D q s A [(ho, .inr (6, [.ref mb, .int (nI sz), .ref mt, .int (nI ln), .ref mw, .int (nI wn), .ref mc, .ref mk, .ref m1, .ref m2, .ref ms, .int (nI dp), .ref mu, .ref mi, .ref mr, .ref mn, .ref mp, .int (nI st_), .int lo_, .int (nI im), .int (nB ex), .ref mj, .int (nI en), .ref me, .ref mh, .int (nB ds)])), (mk, .inl (q 0, 384, .inl (fun x_ => nI (kd x_)))), (m1, .inl (q 0, 384, .inl (fun x_ => nI (on x_)))), (m2, .inl (q 0, 384, .inl (fun x_ => nI (tw x_)))), (ms, .inl (q 0, 1152, .inl se)), (mj, .inl (q 0, 24, .inl (fun x_ => nI (t x_)))), (me, .inl (q 0, 3200, .inl e2)), (mh, .inl (q 0, 25, .inl th))] H locs → W p l e (kz_rm 2) s m args below meth c H locs 0 0 Q (F0 m 91 ls []) := by
          intro fuel
          induction fuel with
          | zero => intro i e2 ls H locs hme; exact absurd hme (Nat.not_lt_zero _)
          | succ fuel ih91 =>
            intro i e2 ls H locs hme hi hout hin hl U
            refine lv_iload hx hb kd_Mo_work_91 (lv_at hl 0 rfl) ?_
            refine lv_aload_n hx hb kd_Mo_work_93 rfl (lv_at hl 4 rfl) ?_
            refine kg_Mo_142 X U 0 rfl rfl kd_Mo_work_94 ?_
            refine kz_icgt X (by first | omega | (have := hnf.1; have := hnf.2.1; have := hnf.2.2.1; omega) | (have := htc i (by omega); omega)) (by first | omega | (have := hnf.1; have := hnf.2.1; have := hnf.2.2.1; omega) | (have := htc i (by omega); omega)) kd_Mo_work_97 rfl (fun h97 => ?_) (fun h97 => ?_)
            · exact kz_ev hQ hA X U ((e2, th)) rfl (⟨hout, fun L hL j hj => hin L hL j hj (by omega)⟩) kd_Mo_work_353
            · have hE : ∀ L : Nat → dm_L, (∀ n, n < k → mo_is en t (L n) (fun j => es (25 * n + j))) → ∀ n, n < k → mo_is en t (L n) (fun j => e2 (25 * n + j)) := fun L hL n hn => mo_is_congr (hL n hn) (fun j hj => hout (25 * n + j) (Or.inl (by omega)))
              refine lv_aload_n hx hb kd_Mo_work_100 rfl (lv_at hl 4 rfl) ?_
              refine kg_Mo_52 X U 0 rfl rfl kd_Mo_work_101 ?_
              refine kz_bp X 25 kd_Mo_work_104 (by decide) ?_
              refine lv_iload_n hx hb kd_Mo_work_106 rfl (lv_at hl 3 rfl) ?_
              refine kz_imul X kd_Mo_work_107 ?_
              refine kz_top (y := nI (25 * a_)) rfl ?_
              refine lv_iload hx hb kd_Mo_work_108 (lv_at hl 0 rfl) ?_
              refine kz_iadd X kd_Mo_work_110 ?_
              refine kz_top (y := nI (25 * a_ + i)) rfl ?_
              refine kz_iald (k := 25 * a_ + i) X U 6 rfl (by omega) (by omega) kd_Mo_work_111 ?_
              refine lv_istore hx hb kd_Mo_work_112 hl (by decide) rfl (fun ls hl => ?_)
              have hl : lv_has ls 9 [(7, .int (e2 (25 * a_ + i))), (6, .int (nI i)), (5, .int (nI kk)), (4, .int (nI b_)), (3, .int (nI a_)), (0, .ref ho), (1, .int (nI bs)), (2, .int (nI k))] := hl
              refine kz_bp X 25 kd_Mo_work_114 (by decide) ?_
              refine lv_iload_n hx hb kd_Mo_work_116 rfl (lv_at hl 7 rfl) ?_
              refine kz_imul X kd_Mo_work_117 ?_
              refine kz_top (y := nI (25 * k)) rfl ?_
              refine lv_iload hx hb kd_Mo_work_118 (lv_at hl 1 rfl) ?_
              refine kz_iadd X kd_Mo_work_120 ?_
              refine kz_top (y := nI (25 * k + i)) rfl ?_
              refine lv_istore hx hb kd_Mo_work_121 hl (by decide) rfl (fun ls hl => ?_)
              have hl : lv_has ls 9 [(8, .int (nI (25 * k + i))), (7, .int (e2 (25 * a_ + i))), (6, .int (nI i)), (5, .int (nI kk)), (4, .int (nI b_)), (3, .int (nI a_)), (0, .ref ho), (1, .int (nI bs)), (2, .int (nI k))] := hl
              refine lv_iload hx hb kd_Mo_work_123 (lv_at hl 3 rfl) ?_
              rcases (show kk = 0 ∨ kk = 1 ∨ kk = 2 ∨ kk = 3 ∨ kk = 4 ∨ kk = 5 ∨ kk = 8 from by omega) with hk125 | hk125 | hk125 | hk125 | hk125 | hk125 | hk125
              · refine kz_top (y := nI 0) (by rw [hk125]) ?_
                refine lv_tableIn hx hb kd_Mo_work_125 (by decide) (by decide) rfl rfl ?_
                refine lv_aload_n hx hb kd_Mo_work_176 rfl (lv_at hl 6 rfl) ?_
                refine kg_Mo_52 X U 0 rfl rfl kd_Mo_work_177 ?_
                refine lv_iload hx hb kd_Mo_work_180 (lv_at hl 0 rfl) ?_
                refine kz_ic X 1 kd_Mo_work_182 (by decide) ?_
                refine lv_iload hx hb kd_Mo_work_183 (lv_at hl 2 rfl) ?_
                refine lv_ishl hx hb kd_Mo_work_185 ?_
                refine kz_iast (k := 25 * k + i) X U 6 rfl (by omega) (by omega) kd_Mo_work_186 (fun H locs U => ?_)
                have U : kz_U D q s A [(ho, .inr (6, [.ref mb, .int (nI sz), .ref mt, .int (nI ln), .ref mw, .int (nI wn), .ref mc, .ref mk, .ref m1, .ref m2, .ref ms, .int (nI dp), .ref mu, .ref mi, .ref mr, .ref mn, .ref mp, .int (nI st_), .int lo_, .int (nI im), .int (nB ex), .ref mj, .int (nI en), .ref me, .ref mh, .int (nB ds)])), (mk, .inl (q 0, 384, .inl (fun x_ => nI (kd x_)))), (m1, .inl (q 0, 384, .inl (fun x_ => nI (on x_)))), (m2, .inl (q 0, 384, .inl (fun x_ => nI (tw x_)))), (ms, .inl (q 0, 1152, .inl se)), (mj, .inl (q 0, 24, .inl (fun x_ => nI (t x_)))), (me, .inl (q 0, 3200, .inl (upd e2 (25 * k + i) ((nI 1) <<< ((nI i) &&& 31))))), (mh, .inl (q 0, 25, .inl th))] H locs := U
                refine lv_goto hx hb kd_Mo_work_187 rfl ?_
                refine lv_iinc (k := 2) (v := nI (i + 1)) hx hb kd_Mo_work_347 hl rfl (nI_add i 1) (by decide) rfl (fun ls hl => ?_)
                have hl : lv_has ls 9 [(6, .int (nI (i + 1))), (8, .int (nI (25 * k + i))), (7, .int (e2 (25 * a_ + i))), (5, .int (nI kk)), (4, .int (nI b_)), (3, .int (nI a_)), (0, .ref ho), (1, .int (nI bs)), (2, .int (nI k))] := hl
                refine lv_goto hx hb kd_Mo_work_350 rfl ?_
                exact ih91 (i + 1) _ _ _ _ (by omega) (by omega) (fun j hj => by rw [pk_un (by omega)]; exact hout j hj) (fun L hL j hj z => if e : j = i then (by rw [e, pk_us, hk125]; exact mo_eps_at (by omega) hen) else (by rw [pk_un (by omega)]; exact hin L hL j hj (by omega))) (lv_sub hl [0, 3, 4, 5, 6, 7, 8] rfl) U
              · refine kz_top (y := nI 1) (by rw [hk125]) ?_
                refine lv_tableIn hx hb kd_Mo_work_125 (by decide) (by decide) rfl rfl ?_
                refine lv_aload_n hx hb kd_Mo_work_190 rfl (lv_at hl 6 rfl) ?_
                refine kg_Mo_52 X U 0 rfl rfl kd_Mo_work_191 ?_
                refine lv_iload hx hb kd_Mo_work_194 (lv_at hl 0 rfl) ?_
                refine lv_iload hx hb kd_Mo_work_196 (lv_at hl 2 rfl) ?_
                refine lv_aload_n hx hb kd_Mo_work_198 rfl (lv_at hl 6 rfl) ?_
                refine kg_Mo_142 X U 0 rfl rfl kd_Mo_work_199 ?_
                refine kz_icge X (by first | omega | (have := hnf.1; have := hnf.2.1; have := hnf.2.2.1; omega) | (have := htc i (by omega); omega)) (by first | omega | (have := hnf.1; have := hnf.2.1; have := hnf.2.2.1; omega) | (have := htc i (by omega); omega)) kd_Mo_work_202 rfl (fun h202 => ?_) (fun h202 => ?_)
                · refine kz_ic X 0 kd_Mo_work_229 (by decide) ?_
                  refine kz_iast (k := 25 * k + i) X U 6 rfl (by omega) (by omega) kd_Mo_work_230 (fun H locs U => ?_)
                  have U : kz_U D q s A [(ho, .inr (6, [.ref mb, .int (nI sz), .ref mt, .int (nI ln), .ref mw, .int (nI wn), .ref mc, .ref mk, .ref m1, .ref m2, .ref ms, .int (nI dp), .ref mu, .ref mi, .ref mr, .ref mn, .ref mp, .int (nI st_), .int lo_, .int (nI im), .int (nB ex), .ref mj, .int (nI en), .ref me, .ref mh, .int (nB ds)])), (mk, .inl (q 0, 384, .inl (fun x_ => nI (kd x_)))), (m1, .inl (q 0, 384, .inl (fun x_ => nI (on x_)))), (m2, .inl (q 0, 384, .inl (fun x_ => nI (tw x_)))), (ms, .inl (q 0, 1152, .inl se)), (mj, .inl (q 0, 24, .inl (fun x_ => nI (t x_)))), (me, .inl (q 0, 3200, .inl (upd e2 (25 * k + i) (nI 0)))), (mh, .inl (q 0, 25, .inl th))] H locs := U
                  refine lv_goto hx hb kd_Mo_work_231 rfl ?_
                  refine lv_iinc (k := 2) (v := nI (i + 1)) hx hb kd_Mo_work_347 hl rfl (nI_add i 1) (by decide) rfl (fun ls hl => ?_)
                  have hl : lv_has ls 9 [(6, .int (nI (i + 1))), (8, .int (nI (25 * k + i))), (7, .int (e2 (25 * a_ + i))), (5, .int (nI kk)), (4, .int (nI b_)), (3, .int (nI a_)), (0, .ref ho), (1, .int (nI bs)), (2, .int (nI k))] := hl
                  refine lv_goto hx hb kd_Mo_work_350 rfl ?_
                  exact ih91 (i + 1) _ _ _ _ (by omega) (by omega) (fun j hj => by rw [pk_un (by omega)]; exact hout j hj) (fun L hL j hj z => if e : j = i then (by rw [e, pk_us, hk125]; exact by first | exact mo_one_f (fun z => absurd z (by omega)) | exact mo_one_f (fun _ => h219) | exact mo_one_t hen h202 h219) else (by rw [pk_un (by omega)]; exact hin L hL j hj (by omega))) (lv_sub hl [0, 3, 4, 5, 6, 7, 8] rfl) U
                · refine lv_aload_n hx hb kd_Mo_work_205 rfl (lv_at hl 6 rfl) ?_
                  refine lv_iload_n hx hb kd_Mo_work_206 rfl (lv_at hl 7 rfl) ?_
                  refine lv_iload_n hx hb kd_Mo_work_207 rfl (lv_at hl 8 rfl) ?_
                  refine kz_iadd X kd_Mo_work_208 ?_
                  refine kz_top (y := nI (bs + k)) rfl ?_
                  refine lv_aload_n hx hb kd_Mo_work_209 rfl (lv_at hl 6 rfl) ?_
                  refine kg_Mo_49 X U 0 rfl rfl kd_Mo_work_210 ?_
                  refine lv_iload hx hb kd_Mo_work_213 (lv_at hl 2 rfl) ?_
                  refine kz_iald (k := i) X U 5 rfl (by omega) (by omega) kd_Mo_work_215 ?_
                  refine kz_top (y := nI (t i)) rfl ?_
                  refine kz_cVi (av := [.int (nI (bs + k)), .int (nI (t i))]) (rest := [.int (nI (25 * k + i)), .ref me]) (wr := [(mk, .inl (q 0, 384, .inl (fun x_ => nI (kd x_)))), (m1, .inl (q 0, 384, .inl (fun x_ => nI (on x_)))), (m2, .inl (q 0, 384, .inl (fun x_ => nI (tw x_)))), (mj, .inl (q 0, 24, .inl (fun x_ => nI (t x_)))), (me, .inl (q 0, 3200, .inl e2)), (mh, .inl (q 0, 25, .inl th))]) X U hl.1 (cm_Mo_has l D q ho mb mt mw mc mk m1 m2 ms mu mi mr mn mp mj me mh sz ln wn dp st_ im en lo_ ex ds (bs + k) (t i) se (by omega) (htc i h202).1 (htc i h202).2) (by decide) (by decide) ⟨by decide, by decide⟩ tb_574 tb_576 tb_s32 0 rfl rfl tb_11 tb_577 kq_Mo_has [0, 4] [1, 2, 3, 5, 6, 7] (by decide) rfl rfl (by decide) (by decide) rfl (Nat.le_of_ble_eq_true rfl) kd_Mo_work_216 (fun rv _ H locs hp U => ?_)
                  subst hp
                  have U : kz_U D q s A [(ho, .inr (6, [.ref mb, .int (nI sz), .ref mt, .int (nI ln), .ref mw, .int (nI wn), .ref mc, .ref mk, .ref m1, .ref m2, .ref ms, .int (nI dp), .ref mu, .ref mi, .ref mr, .ref mn, .ref mp, .int (nI st_), .int lo_, .int (nI im), .int (nB ex), .ref mj, .int (nI en), .ref me, .ref mh, .int (nB ds)])), (mk, .inl (q 0, 384, .inl (fun x_ => nI (kd x_)))), (m1, .inl (q 0, 384, .inl (fun x_ => nI (on x_)))), (m2, .inl (q 0, 384, .inl (fun x_ => nI (tw x_)))), (ms, .inl (q 0, 1152, .inl se)), (mj, .inl (q 0, 24, .inl (fun x_ => nI (t x_)))), (me, .inl (q 0, 3200, .inl e2)), (mh, .inl (q 0, 25, .inl th))] H locs := U.sub [6, 0, 1, 2, 7, 3, 4, 5] (by decide) rfl
                  refine kz_ifeqB X kd_Mo_work_219 rfl (fun h219 => ?_) (fun h219 => ?_)
                  · refine kz_ic X 0 kd_Mo_work_229 (by decide) ?_
                    refine kz_iast (k := 25 * k + i) X U 6 rfl (by omega) (by omega) kd_Mo_work_230 (fun H locs U => ?_)
                    have U : kz_U D q s A [(ho, .inr (6, [.ref mb, .int (nI sz), .ref mt, .int (nI ln), .ref mw, .int (nI wn), .ref mc, .ref mk, .ref m1, .ref m2, .ref ms, .int (nI dp), .ref mu, .ref mi, .ref mr, .ref mn, .ref mp, .int (nI st_), .int lo_, .int (nI im), .int (nB ex), .ref mj, .int (nI en), .ref me, .ref mh, .int (nB ds)])), (mk, .inl (q 0, 384, .inl (fun x_ => nI (kd x_)))), (m1, .inl (q 0, 384, .inl (fun x_ => nI (on x_)))), (m2, .inl (q 0, 384, .inl (fun x_ => nI (tw x_)))), (ms, .inl (q 0, 1152, .inl se)), (mj, .inl (q 0, 24, .inl (fun x_ => nI (t x_)))), (me, .inl (q 0, 3200, .inl (upd e2 (25 * k + i) (nI 0)))), (mh, .inl (q 0, 25, .inl th))] H locs := U
                    refine lv_goto hx hb kd_Mo_work_231 rfl ?_
                    refine lv_iinc (k := 2) (v := nI (i + 1)) hx hb kd_Mo_work_347 hl rfl (nI_add i 1) (by decide) rfl (fun ls hl => ?_)
                    have hl : lv_has ls 9 [(6, .int (nI (i + 1))), (8, .int (nI (25 * k + i))), (7, .int (e2 (25 * a_ + i))), (5, .int (nI kk)), (4, .int (nI b_)), (3, .int (nI a_)), (0, .ref ho), (1, .int (nI bs)), (2, .int (nI k))] := hl
                    refine lv_goto hx hb kd_Mo_work_350 rfl ?_
                    exact ih91 (i + 1) _ _ _ _ (by omega) (by omega) (fun j hj => by rw [pk_un (by omega)]; exact hout j hj) (fun L hL j hj z => if e : j = i then (by rw [e, pk_us, hk125]; exact by first | exact mo_one_f (fun z => absurd z (by omega)) | exact mo_one_f (fun _ => h219) | exact mo_one_t hen h202 h219) else (by rw [pk_un (by omega)]; exact hin L hL j hj (by omega))) (lv_sub hl [0, 3, 4, 5, 6, 7, 8] rfl) U
                  · refine kz_ic X 2 kd_Mo_work_222 (by decide) ?_
                    refine lv_iload hx hb kd_Mo_work_223 (lv_at hl 2 rfl) ?_
                    refine lv_ishl hx hb kd_Mo_work_225 ?_
                    refine lv_goto hx hb kd_Mo_work_226 rfl ?_
                    refine kz_iast (k := 25 * k + i) X U 6 rfl (by omega) (by omega) kd_Mo_work_230 (fun H locs U => ?_)
                    have U : kz_U D q s A [(ho, .inr (6, [.ref mb, .int (nI sz), .ref mt, .int (nI ln), .ref mw, .int (nI wn), .ref mc, .ref mk, .ref m1, .ref m2, .ref ms, .int (nI dp), .ref mu, .ref mi, .ref mr, .ref mn, .ref mp, .int (nI st_), .int lo_, .int (nI im), .int (nB ex), .ref mj, .int (nI en), .ref me, .ref mh, .int (nB ds)])), (mk, .inl (q 0, 384, .inl (fun x_ => nI (kd x_)))), (m1, .inl (q 0, 384, .inl (fun x_ => nI (on x_)))), (m2, .inl (q 0, 384, .inl (fun x_ => nI (tw x_)))), (ms, .inl (q 0, 1152, .inl se)), (mj, .inl (q 0, 24, .inl (fun x_ => nI (t x_)))), (me, .inl (q 0, 3200, .inl (upd e2 (25 * k + i) ((nI 2) <<< ((nI i) &&& 31))))), (mh, .inl (q 0, 25, .inl th))] H locs := U
                    refine lv_goto hx hb kd_Mo_work_231 rfl ?_
                    refine lv_iinc (k := 2) (v := nI (i + 1)) hx hb kd_Mo_work_347 hl rfl (nI_add i 1) (by decide) rfl (fun ls hl => ?_)
                    have hl : lv_has ls 9 [(6, .int (nI (i + 1))), (8, .int (nI (25 * k + i))), (7, .int (e2 (25 * a_ + i))), (5, .int (nI kk)), (4, .int (nI b_)), (3, .int (nI a_)), (0, .ref ho), (1, .int (nI bs)), (2, .int (nI k))] := hl
                    refine lv_goto hx hb kd_Mo_work_350 rfl ?_
                    exact ih91 (i + 1) _ _ _ _ (by omega) (by omega) (fun j hj => by rw [pk_un (by omega)]; exact hout j hj) (fun L hL j hj z => if e : j = i then (by rw [e, pk_us, hk125]; exact by first | exact mo_one_f (fun z => absurd z (by omega)) | exact mo_one_f (fun _ => h219) | exact mo_one_t hen h202 h219) else (by rw [pk_un (by omega)]; exact hin L hL j hj (by omega))) (lv_sub hl [0, 3, 4, 5, 6, 7, 8] rfl) U
              · refine kz_top (y := nI 2) (by rw [hk125]) ?_
                refine lv_tableIn hx hb kd_Mo_work_125 (by decide) (by decide) rfl rfl ?_
                refine lv_aload_n hx hb kd_Mo_work_234 rfl (lv_at hl 6 rfl) ?_
                refine kg_Mo_52 X U 0 rfl rfl kd_Mo_work_235 ?_
                refine lv_iload hx hb kd_Mo_work_238 (lv_at hl 0 rfl) ?_
                refine lv_aload_n hx hb kd_Mo_work_240 rfl (lv_at hl 6 rfl) ?_
                refine lv_iload hx hb kd_Mo_work_241 (lv_at hl 1 rfl) ?_
                refine lv_iload hx hb kd_Mo_work_243 (lv_at hl 4 rfl) ?_
                refine kz_cVi (av := [.int (e2 (25 * a_ + i)), .int (nI b_)]) (rest := [.int (nI (25 * k + i)), .ref me]) (wr := [(mk, .inl (q 0, 384, .inl (fun x_ => nI (kd x_)))), (m1, .inl (q 0, 384, .inl (fun x_ => nI (on x_)))), (m2, .inl (q 0, 384, .inl (fun x_ => nI (tw x_)))), (ms, .inl (q 0, 1152, .inl se)), (mj, .inl (q 0, 24, .inl (fun x_ => nI (t x_)))), (mh, .inl (q 0, 25, .inl th))]) X U hl.1 (cm_Mo_onward l D q ho mb mt mw mc mk m1 m2 ms mu mi mr mn mp mj me mh sz ln wn dp st_ im en lo_ ex ds (e2 (25 * a_ + i)) b_ e2 hb128 hen) (by decide) (by decide) ⟨by decide, by decide⟩ tb_618 tb_620 tb_s41 0 rfl rfl tb_11 tb_621 kq_Mo_onward [0, 6] [1, 2, 3, 4, 5, 7] (by decide) rfl rfl (by decide) (by decide) rfl (Nat.le_of_ble_eq_true rfl) kd_Mo_work_245 (fun rv _ H locs hp U => ?_)
                subst hp
                have U : kz_U D q s A [(ho, .inr (6, [.ref mb, .int (nI sz), .ref mt, .int (nI ln), .ref mw, .int (nI wn), .ref mc, .ref mk, .ref m1, .ref m2, .ref ms, .int (nI dp), .ref mu, .ref mi, .ref mr, .ref mn, .ref mp, .int (nI st_), .int lo_, .int (nI im), .int (nB ex), .ref mj, .int (nI en), .ref me, .ref mh, .int (nB ds)])), (mk, .inl (q 0, 384, .inl (fun x_ => nI (kd x_)))), (m1, .inl (q 0, 384, .inl (fun x_ => nI (on x_)))), (m2, .inl (q 0, 384, .inl (fun x_ => nI (tw x_)))), (ms, .inl (q 0, 1152, .inl se)), (mj, .inl (q 0, 24, .inl (fun x_ => nI (t x_)))), (me, .inl (q 0, 3200, .inl e2)), (mh, .inl (q 0, 25, .inl th))] H locs := U.sub [6, 0, 1, 2, 3, 4, 7, 5] (by decide) rfl
                refine kz_iast (k := 25 * k + i) X U 6 rfl (by omega) (by omega) kd_Mo_work_248 (fun H locs U => ?_)
                have U : kz_U D q s A [(ho, .inr (6, [.ref mb, .int (nI sz), .ref mt, .int (nI ln), .ref mw, .int (nI wn), .ref mc, .ref mk, .ref m1, .ref m2, .ref ms, .int (nI dp), .ref mu, .ref mi, .ref mr, .ref mn, .ref mp, .int (nI st_), .int lo_, .int (nI im), .int (nB ex), .ref mj, .int (nI en), .ref me, .ref mh, .int (nB ds)])), (mk, .inl (q 0, 384, .inl (fun x_ => nI (kd x_)))), (m1, .inl (q 0, 384, .inl (fun x_ => nI (on x_)))), (m2, .inl (q 0, 384, .inl (fun x_ => nI (tw x_)))), (ms, .inl (q 0, 1152, .inl se)), (mj, .inl (q 0, 24, .inl (fun x_ => nI (t x_)))), (me, .inl (q 0, 3200, .inl (upd e2 (25 * k + i) (mo_on (e2 (25 * a_ + i)) (fun j => e2 (25 * b_ + j)) (en + 1))))), (mh, .inl (q 0, 25, .inl th))] H locs := U
                refine lv_goto hx hb kd_Mo_work_249 rfl ?_
                refine lv_iinc (k := 2) (v := nI (i + 1)) hx hb kd_Mo_work_347 hl rfl (nI_add i 1) (by decide) rfl (fun ls hl => ?_)
                have hl : lv_has ls 9 [(6, .int (nI (i + 1))), (8, .int (nI (25 * k + i))), (7, .int (e2 (25 * a_ + i))), (5, .int (nI kk)), (4, .int (nI b_)), (3, .int (nI a_)), (0, .ref ho), (1, .int (nI bs)), (2, .int (nI k))] := hl
                refine lv_goto hx hb kd_Mo_work_350 rfl ?_
                exact ih91 (i + 1) _ _ _ _ (by omega) (by omega) (fun j hj => by rw [pk_un (by omega)]; exact hout j hj) (fun L hL j hj z => if e : j = i then (by rw [e, pk_us, hk125]; exact mo_on_at (hE L hL a_ (hnf.2.2.2.1 (by omega)) i (by omega)) (hE L hL b_ (hnf.2.2.2.2.1 (by omega)))) else (by rw [pk_un (by omega)]; exact hin L hL j hj (by omega))) (lv_sub hl [0, 3, 4, 5, 6, 7, 8] rfl) U
              · refine kz_top (y := nI 3) (by rw [hk125]) ?_
                refine lv_tableIn hx hb kd_Mo_work_125 (by decide) (by decide) rfl rfl ?_
                refine lv_aload_n hx hb kd_Mo_work_252 rfl (lv_at hl 6 rfl) ?_
                refine kg_Mo_52 X U 0 rfl rfl kd_Mo_work_253 ?_
                refine lv_iload hx hb kd_Mo_work_256 (lv_at hl 0 rfl) ?_
                refine lv_iload hx hb kd_Mo_work_258 (lv_at hl 1 rfl) ?_
                refine lv_aload_n hx hb kd_Mo_work_260 rfl (lv_at hl 6 rfl) ?_
                refine kg_Mo_52 X U 0 rfl rfl kd_Mo_work_261 ?_
                refine kz_bp X 25 kd_Mo_work_264 (by decide) ?_
                refine lv_iload hx hb kd_Mo_work_266 (lv_at hl 4 rfl) ?_
                refine kz_imul X kd_Mo_work_268 ?_
                refine kz_top (y := nI (25 * b_)) rfl ?_
                refine lv_iload hx hb kd_Mo_work_269 (lv_at hl 2 rfl) ?_
                refine kz_iadd X kd_Mo_work_271 ?_
                refine kz_top (y := nI (25 * b_ + i)) rfl ?_
                refine kz_iald (k := 25 * b_ + i) X U 6 rfl (by omega) (by omega) kd_Mo_work_272 ?_
                refine lv_iand hx hb kd_Mo_work_273 ?_
                refine kz_iast (k := 25 * k + i) X U 6 rfl (by omega) (by omega) kd_Mo_work_274 (fun H locs U => ?_)
                have U : kz_U D q s A [(ho, .inr (6, [.ref mb, .int (nI sz), .ref mt, .int (nI ln), .ref mw, .int (nI wn), .ref mc, .ref mk, .ref m1, .ref m2, .ref ms, .int (nI dp), .ref mu, .ref mi, .ref mr, .ref mn, .ref mp, .int (nI st_), .int lo_, .int (nI im), .int (nB ex), .ref mj, .int (nI en), .ref me, .ref mh, .int (nB ds)])), (mk, .inl (q 0, 384, .inl (fun x_ => nI (kd x_)))), (m1, .inl (q 0, 384, .inl (fun x_ => nI (on x_)))), (m2, .inl (q 0, 384, .inl (fun x_ => nI (tw x_)))), (ms, .inl (q 0, 1152, .inl se)), (mj, .inl (q 0, 24, .inl (fun x_ => nI (t x_)))), (me, .inl (q 0, 3200, .inl (upd e2 (25 * k + i) ((e2 (25 * a_ + i)) &&& (e2 (25 * b_ + i)))))), (mh, .inl (q 0, 25, .inl th))] H locs := U
                refine lv_goto hx hb kd_Mo_work_275 rfl ?_
                refine lv_iinc (k := 2) (v := nI (i + 1)) hx hb kd_Mo_work_347 hl rfl (nI_add i 1) (by decide) rfl (fun ls hl => ?_)
                have hl : lv_has ls 9 [(6, .int (nI (i + 1))), (8, .int (nI (25 * k + i))), (7, .int (e2 (25 * a_ + i))), (5, .int (nI kk)), (4, .int (nI b_)), (3, .int (nI a_)), (0, .ref ho), (1, .int (nI bs)), (2, .int (nI k))] := hl
                refine lv_goto hx hb kd_Mo_work_350 rfl ?_
                exact ih91 (i + 1) _ _ _ _ (by omega) (by omega) (fun j hj => by rw [pk_un (by omega)]; exact hout j hj) (fun L hL j hj z => if e : j = i then (by rw [e, pk_us, hk125]; exact mo_and_at (hE L hL a_ (hnf.2.2.2.1 (by omega)) i (by omega)) (hE L hL b_ (hnf.2.2.2.2.1 (by omega)) i (by omega))) else (by rw [pk_un (by omega)]; exact hin L hL j hj (by omega))) (lv_sub hl [0, 3, 4, 5, 6, 7, 8] rfl) U
              · refine kz_top (y := nI 4) (by rw [hk125]) ?_
                refine lv_tableIn hx hb kd_Mo_work_125 (by decide) (by decide) rfl rfl ?_
                refine lv_aload_n hx hb kd_Mo_work_278 rfl (lv_at hl 6 rfl) ?_
                refine kg_Mo_52 X U 0 rfl rfl kd_Mo_work_279 ?_
                refine lv_iload hx hb kd_Mo_work_282 (lv_at hl 0 rfl) ?_
                refine lv_iload hx hb kd_Mo_work_284 (lv_at hl 1 rfl) ?_
                refine lv_aload_n hx hb kd_Mo_work_286 rfl (lv_at hl 6 rfl) ?_
                refine kg_Mo_52 X U 0 rfl rfl kd_Mo_work_287 ?_
                refine kz_bp X 25 kd_Mo_work_290 (by decide) ?_
                refine lv_iload hx hb kd_Mo_work_292 (lv_at hl 4 rfl) ?_
                refine kz_imul X kd_Mo_work_294 ?_
                refine kz_top (y := nI (25 * b_)) rfl ?_
                refine lv_iload hx hb kd_Mo_work_295 (lv_at hl 2 rfl) ?_
                refine kz_iadd X kd_Mo_work_297 ?_
                refine kz_top (y := nI (25 * b_ + i)) rfl ?_
                refine kz_iald (k := 25 * b_ + i) X U 6 rfl (by omega) (by omega) kd_Mo_work_298 ?_
                refine lv_ior hx hb kd_Mo_work_299 ?_
                refine kz_iast (k := 25 * k + i) X U 6 rfl (by omega) (by omega) kd_Mo_work_300 (fun H locs U => ?_)
                have U : kz_U D q s A [(ho, .inr (6, [.ref mb, .int (nI sz), .ref mt, .int (nI ln), .ref mw, .int (nI wn), .ref mc, .ref mk, .ref m1, .ref m2, .ref ms, .int (nI dp), .ref mu, .ref mi, .ref mr, .ref mn, .ref mp, .int (nI st_), .int lo_, .int (nI im), .int (nB ex), .ref mj, .int (nI en), .ref me, .ref mh, .int (nB ds)])), (mk, .inl (q 0, 384, .inl (fun x_ => nI (kd x_)))), (m1, .inl (q 0, 384, .inl (fun x_ => nI (on x_)))), (m2, .inl (q 0, 384, .inl (fun x_ => nI (tw x_)))), (ms, .inl (q 0, 1152, .inl se)), (mj, .inl (q 0, 24, .inl (fun x_ => nI (t x_)))), (me, .inl (q 0, 3200, .inl (upd e2 (25 * k + i) ((e2 (25 * a_ + i)) ||| (e2 (25 * b_ + i)))))), (mh, .inl (q 0, 25, .inl th))] H locs := U
                refine lv_goto hx hb kd_Mo_work_301 rfl ?_
                refine lv_iinc (k := 2) (v := nI (i + 1)) hx hb kd_Mo_work_347 hl rfl (nI_add i 1) (by decide) rfl (fun ls hl => ?_)
                have hl : lv_has ls 9 [(6, .int (nI (i + 1))), (8, .int (nI (25 * k + i))), (7, .int (e2 (25 * a_ + i))), (5, .int (nI kk)), (4, .int (nI b_)), (3, .int (nI a_)), (0, .ref ho), (1, .int (nI bs)), (2, .int (nI k))] := hl
                refine lv_goto hx hb kd_Mo_work_350 rfl ?_
                exact ih91 (i + 1) _ _ _ _ (by omega) (by omega) (fun j hj => by rw [pk_un (by omega)]; exact hout j hj) (fun L hL j hj z => if e : j = i then (by rw [e, pk_us, hk125]; exact mo_or_at (hE L hL a_ (hnf.2.2.2.1 (by omega)) i (by omega)) (hE L hL b_ (hnf.2.2.2.2.1 (by omega)) i (by omega))) else (by rw [pk_un (by omega)]; exact hin L hL j hj (by omega))) (lv_sub hl [0, 3, 4, 5, 6, 7, 8] rfl) U
              · refine kz_top (y := nI 5) (by rw [hk125]) ?_
                refine lv_tableIn hx hb kd_Mo_work_125 (by decide) (by decide) rfl rfl ?_
                refine lv_aload_n hx hb kd_Mo_work_304 rfl (lv_at hl 6 rfl) ?_
                refine kg_Mo_52 X U 0 rfl rfl kd_Mo_work_305 ?_
                refine lv_iload hx hb kd_Mo_work_308 (lv_at hl 0 rfl) ?_
                refine lv_iload hx hb kd_Mo_work_310 (lv_at hl 1 rfl) ?_
                refine lv_iconst (v := (-1)) hx hb kd_Mo_work_312 (by decide) ?_
                refine lv_ixor hx hb kd_Mo_work_313 ?_
                refine kz_ic X 2 kd_Mo_work_314 (by decide) ?_
                refine lv_aload_n hx hb kd_Mo_work_315 rfl (lv_at hl 6 rfl) ?_
                refine kg_Mo_142 X U 0 rfl rfl kd_Mo_work_316 ?_
                refine lv_ishl hx hb kd_Mo_work_319 ?_
                refine kz_ic X 1 kd_Mo_work_320 (by decide) ?_
                refine lv_iload hx hb kd_Mo_work_321 (lv_at hl 2 rfl) ?_
                refine lv_ishl hx hb kd_Mo_work_323 ?_
                refine lv_isub hx hb kd_Mo_work_324 ?_
                refine lv_iand hx hb kd_Mo_work_325 ?_
                refine kz_iast (k := 25 * k + i) X U 6 rfl (by omega) (by omega) kd_Mo_work_326 (fun H locs U => ?_)
                have U : kz_U D q s A [(ho, .inr (6, [.ref mb, .int (nI sz), .ref mt, .int (nI ln), .ref mw, .int (nI wn), .ref mc, .ref mk, .ref m1, .ref m2, .ref ms, .int (nI dp), .ref mu, .ref mi, .ref mr, .ref mn, .ref mp, .int (nI st_), .int lo_, .int (nI im), .int (nB ex), .ref mj, .int (nI en), .ref me, .ref mh, .int (nB ds)])), (mk, .inl (q 0, 384, .inl (fun x_ => nI (kd x_)))), (m1, .inl (q 0, 384, .inl (fun x_ => nI (on x_)))), (m2, .inl (q 0, 384, .inl (fun x_ => nI (tw x_)))), (ms, .inl (q 0, 1152, .inl se)), (mj, .inl (q 0, 24, .inl (fun x_ => nI (t x_)))), (me, .inl (q 0, 3200, .inl (upd e2 (25 * k + i) (((e2 (25 * a_ + i)) ^^^ ((-1))) &&& (((nI 2) <<< ((nI en) &&& 31)) - ((nI 1) <<< ((nI i) &&& 31))))))), (mh, .inl (q 0, 25, .inl th))] H locs := U
                refine lv_goto hx hb kd_Mo_work_327 rfl ?_
                refine lv_iinc (k := 2) (v := nI (i + 1)) hx hb kd_Mo_work_347 hl rfl (nI_add i 1) (by decide) rfl (fun ls hl => ?_)
                have hl : lv_has ls 9 [(6, .int (nI (i + 1))), (8, .int (nI (25 * k + i))), (7, .int (e2 (25 * a_ + i))), (5, .int (nI kk)), (4, .int (nI b_)), (3, .int (nI a_)), (0, .ref ho), (1, .int (nI bs)), (2, .int (nI k))] := hl
                refine lv_goto hx hb kd_Mo_work_350 rfl ?_
                exact ih91 (i + 1) _ _ _ _ (by omega) (by omega) (fun j hj => by rw [pk_un (by omega)]; exact hout j hj) (fun L hL j hj z => if e : j = i then (by rw [e, pk_us, hk125]; exact mo_not_at hen (by omega) (hE L hL a_ (hnf.2.2.2.1 (by omega)) i (by omega))) else (by rw [pk_un (by omega)]; exact hin L hL j hj (by omega))) (lv_sub hl [0, 3, 4, 5, 6, 7, 8] rfl) U
              · refine kz_top (y := nI 8) (by rw [hk125]) ?_
                refine lv_tableIn hx hb kd_Mo_work_125 (by decide) (by decide) rfl rfl ?_
                refine lv_aload_n hx hb kd_Mo_work_330 rfl (lv_at hl 6 rfl) ?_
                refine kg_Mo_52 X U 0 rfl rfl kd_Mo_work_331 ?_
                refine lv_iload hx hb kd_Mo_work_334 (lv_at hl 0 rfl) ?_
                refine lv_iload hx hb kd_Mo_work_336 (lv_at hl 1 rfl) ?_
                refine kz_ic X 1 kd_Mo_work_338 (by decide) ?_
                refine lv_iload hx hb kd_Mo_work_339 (lv_at hl 2 rfl) ?_
                refine lv_ishl hx hb kd_Mo_work_341 ?_
                refine lv_ior hx hb kd_Mo_work_342 ?_
                refine kz_iast (k := 25 * k + i) X U 6 rfl (by omega) (by omega) kd_Mo_work_343 (fun H locs U => ?_)
                have U : kz_U D q s A [(ho, .inr (6, [.ref mb, .int (nI sz), .ref mt, .int (nI ln), .ref mw, .int (nI wn), .ref mc, .ref mk, .ref m1, .ref m2, .ref ms, .int (nI dp), .ref mu, .ref mi, .ref mr, .ref mn, .ref mp, .int (nI st_), .int lo_, .int (nI im), .int (nB ex), .ref mj, .int (nI en), .ref me, .ref mh, .int (nB ds)])), (mk, .inl (q 0, 384, .inl (fun x_ => nI (kd x_)))), (m1, .inl (q 0, 384, .inl (fun x_ => nI (on x_)))), (m2, .inl (q 0, 384, .inl (fun x_ => nI (tw x_)))), (ms, .inl (q 0, 1152, .inl se)), (mj, .inl (q 0, 24, .inl (fun x_ => nI (t x_)))), (me, .inl (q 0, 3200, .inl (upd e2 (25 * k + i) ((e2 (25 * a_ + i)) ||| ((nI 1) <<< ((nI i) &&& 31)))))), (mh, .inl (q 0, 25, .inl th))] H locs := U
                refine lv_goto hx hb kd_Mo_work_344 rfl ?_
                refine lv_iinc (k := 2) (v := nI (i + 1)) hx hb kd_Mo_work_347 hl rfl (nI_add i 1) (by decide) rfl (fun ls hl => ?_)
                have hl : lv_has ls 9 [(6, .int (nI (i + 1))), (8, .int (nI (25 * k + i))), (7, .int (e2 (25 * a_ + i))), (5, .int (nI kk)), (4, .int (nI b_)), (3, .int (nI a_)), (0, .ref ho), (1, .int (nI bs)), (2, .int (nI k))] := hl
                refine lv_goto hx hb kd_Mo_work_350 rfl ?_
                exact ih91 (i + 1) _ _ _ _ (by omega) (by omega) (fun j hj => by rw [pk_un (by omega)]; exact hout j hj) (fun L hL j hj z => if e : j = i then (by rw [e, pk_us, hk125]; exact mo_or_at (hE L hL a_ (hnf.2.2.2.1 (by omega)) i (by omega)) (mo_eps_at (by omega) hen)) else (by rw [pk_un (by omega)]; exact hin L hL j hj (by omega))) (lv_sub hl [0, 3, 4, 5, 6, 7, 8] rfl) U
        exact loop91 _ 0 es _ _ _ (Nat.lt_succ_self _) (by omega) (fun _ _ => rfl) (fun L hL j hj z => absurd z (by omega)) (lv_sub hl [0, 1, 2, 3, 4, 5, 6] rfl) U
      · refine lv_aload_n hx hb kd_Mo_work_68 rfl (lv_at hl 3 rfl) ?_
        refine lv_iload_n hx hb kd_Mo_work_69 rfl (lv_at hl 5 rfl) ?_
        refine lv_iload_n hx hb kd_Mo_work_70 rfl (lv_at hl 2 rfl) ?_
        refine lv_iload hx hb kd_Mo_work_71 (lv_at hl 0 rfl) ?_
        refine kz_bp X 6 kd_Mo_work_73 (by decide) ?_
        refine kz_icne X (by first | omega | (have := hnf.1; have := hnf.2.1; have := hnf.2.2.1; omega) | (have := htc i (by omega); omega)) (by first | omega | (have := hnf.1; have := hnf.2.1; have := hnf.2.2.1; omega) | (have := htc i (by omega); omega)) kd_Mo_work_75 rfl (fun h75 => ?_) (fun h75 => absurd h75 (by omega))
        refine kz_ic X 1 kd_Mo_work_82 (by decide) ?_
        refine kz_bp X 10 kd_Mo_work_83 (by decide) ?_
        refine kz_cVv (av := [.int (nI k), .int (nI a_), .int (nI 1), .int (nI 10)]) (rest := []) (wr := [(mk, .inl (q 0, 384, .inl (fun x_ => nI (kd x_)))), (m1, .inl (q 0, 384, .inl (fun x_ => nI (on x_)))), (m2, .inl (q 0, 384, .inl (fun x_ => nI (tw x_)))), (ms, .inl (q 0, 1152, .inl se)), (mj, .inl (q 0, 24, .inl (fun x_ => nI (t x_))))]) X U hl.1 (cm_Mo_times l D q ho mb mt mw mc mk m1 m2 ms mu mi mr mn mp mj me mh sz ln wn dp st_ im en lo_ ex ds k a_ 1 10 t es th hk (hnf.2.2.2.1 (by omega)) hen (by omega) (by omega) (fun z => absurd z (by omega))) (by decide) (by decide) ⟨by decide, by decide⟩ tb_610 tb_612 tb_s39 0 rfl rfl tb_11 tb_613 kq_Mo_times [0, 6, 7] [1, 2, 3, 4, 5] (by decide) rfl rfl (by decide) (by decide) rfl (Nat.le_of_ble_eq_true rfl) kd_Mo_work_85 (fun u H locs hu U => ?_)
        have U : kz_U D q s A [(ho, .inr (6, [.ref mb, .int (nI sz), .ref mt, .int (nI ln), .ref mw, .int (nI wn), .ref mc, .ref mk, .ref m1, .ref m2, .ref ms, .int (nI dp), .ref mu, .ref mi, .ref mr, .ref mn, .ref mp, .int (nI st_), .int lo_, .int (nI im), .int (nB ex), .ref mj, .int (nI en), .ref me, .ref mh, .int (nB ds)])), (mk, .inl (q 0, 384, .inl (fun x_ => nI (kd x_)))), (m1, .inl (q 0, 384, .inl (fun x_ => nI (on x_)))), (m2, .inl (q 0, 384, .inl (fun x_ => nI (tw x_)))), (ms, .inl (q 0, 1152, .inl se)), (mj, .inl (q 0, 24, .inl (fun x_ => nI (t x_)))), (me, .inl (q 0, 3200, .inl u.1)), (mh, .inl (q 0, 25, .inl u.2))] H locs := U.sub [5, 0, 1, 2, 3, 4, 6, 7] (by decide) rfl
        refine kz_ic X 0 kd_Mo_work_88 (by decide) ?_
        refine lv_istore hx hb kd_Mo_work_89 hl (by decide) rfl (fun ls hl => ?_)
        have hl : lv_has ls 9 [(6, .int (nI 0)), (5, .int (nI kk)), (4, .int (nI b_)), (3, .int (nI a_)), (0, .ref ho), (1, .int (nI bs)), (2, .int (nI k))] := hl
        have loop91 : ∀ (fuel : Nat) (i : Nat) (e2 : Nat → Int32) (ls : Array Slot) (H : Heap) (locs : List Loc), en + 2 - i < fuel → (i ≤ en + 1) → (∀ j, (j < 25 * k ∨ 25 * k + 25 ≤ j) → e2 j = es j) → (∀ L : Nat → dm_L, (∀ n, n < k → mo_is en t (L n) (fun j => es (25 * n + j))) → ∀ j, j ≤ en → (j < i ∨ kk = 6 ∨ kk = 7 ∨ kk = 9) → mo_at en t j (nd_sem kk a_ b_ mm (nd_hs se (bs + k)) L) (e2 (25 * k + j))) → lv_has ls 9 [(6, .int (nI i)), (5, .int (nI kk)), (4, .int (nI b_)), (3, .int (nI a_)), (0, .ref ho), (1, .int (nI bs)), (2, .int (nI k))] → kz_U D q s A [(ho, .inr (6, [.ref mb, .int (nI sz), .ref mt, .int (nI ln), .ref mw, .int (nI wn), .ref mc, .ref mk, .ref m1, .ref m2, .ref ms, .int (nI dp), .ref mu, .ref mi, .ref mr, .ref mn, .ref mp, .int (nI st_), .int lo_, .int (nI im), .int (nB ex), .ref mj, .int (nI en), .ref me, .ref mh, .int (nB ds)])), (mk, .inl (q 0, 384, .inl (fun x_ => nI (kd x_)))), (m1, .inl (q 0, 384, .inl (fun x_ => nI (on x_)))), (m2, .inl (q 0, 384, .inl (fun x_ => nI (tw x_)))), (ms, .inl (q 0, 1152, .inl se)), (mj, .inl (q 0, 24, .inl (fun x_ => nI (t x_)))), (me, .inl (q 0, 3200, .inl e2)), (mh, .inl (q 0, 25, .inl u.2))] H locs → W p l e (kz_rm 2) s m args below meth c H locs 0 0 Q (F0 m 91 ls []) := by
          intro fuel
          induction fuel with
          | zero => intro i e2 ls H locs hme; exact absurd hme (Nat.not_lt_zero _)
          | succ fuel ih91 =>
            intro i e2 ls H locs hme hi hout hin hl U
            refine lv_iload hx hb kd_Mo_work_91 (lv_at hl 0 rfl) ?_
            refine lv_aload_n hx hb kd_Mo_work_93 rfl (lv_at hl 4 rfl) ?_
            refine kg_Mo_142 X U 0 rfl rfl kd_Mo_work_94 ?_
            refine kz_icgt X (by first | omega | (have := hnf.1; have := hnf.2.1; have := hnf.2.2.1; omega) | (have := htc i (by omega); omega)) (by first | omega | (have := hnf.1; have := hnf.2.1; have := hnf.2.2.1; omega) | (have := htc i (by omega); omega)) kd_Mo_work_97 rfl (fun h97 => ?_) (fun h97 => ?_)
            · exact kz_ev hQ hA X U ((e2, u.2)) rfl (⟨hout, fun L hL j hj => hin L hL j hj (by omega)⟩) kd_Mo_work_353
            · have hE : ∀ L : Nat → dm_L, (∀ n, n < k → mo_is en t (L n) (fun j => es (25 * n + j))) → ∀ n, n < k → mo_is en t (L n) (fun j => e2 (25 * n + j)) := fun L hL n hn => mo_is_congr (hL n hn) (fun j hj => hout (25 * n + j) (Or.inl (by omega)))
              refine lv_aload_n hx hb kd_Mo_work_100 rfl (lv_at hl 4 rfl) ?_
              refine kg_Mo_52 X U 0 rfl rfl kd_Mo_work_101 ?_
              refine kz_bp X 25 kd_Mo_work_104 (by decide) ?_
              refine lv_iload_n hx hb kd_Mo_work_106 rfl (lv_at hl 3 rfl) ?_
              refine kz_imul X kd_Mo_work_107 ?_
              refine kz_top (y := nI (25 * a_)) rfl ?_
              refine lv_iload hx hb kd_Mo_work_108 (lv_at hl 0 rfl) ?_
              refine kz_iadd X kd_Mo_work_110 ?_
              refine kz_top (y := nI (25 * a_ + i)) rfl ?_
              refine kz_iald (k := 25 * a_ + i) X U 6 rfl (by omega) (by omega) kd_Mo_work_111 ?_
              refine lv_istore hx hb kd_Mo_work_112 hl (by decide) rfl (fun ls hl => ?_)
              have hl : lv_has ls 9 [(7, .int (e2 (25 * a_ + i))), (6, .int (nI i)), (5, .int (nI kk)), (4, .int (nI b_)), (3, .int (nI a_)), (0, .ref ho), (1, .int (nI bs)), (2, .int (nI k))] := hl
              refine kz_bp X 25 kd_Mo_work_114 (by decide) ?_
              refine lv_iload_n hx hb kd_Mo_work_116 rfl (lv_at hl 7 rfl) ?_
              refine kz_imul X kd_Mo_work_117 ?_
              refine kz_top (y := nI (25 * k)) rfl ?_
              refine lv_iload hx hb kd_Mo_work_118 (lv_at hl 1 rfl) ?_
              refine kz_iadd X kd_Mo_work_120 ?_
              refine kz_top (y := nI (25 * k + i)) rfl ?_
              refine lv_istore hx hb kd_Mo_work_121 hl (by decide) rfl (fun ls hl => ?_)
              have hl : lv_has ls 9 [(8, .int (nI (25 * k + i))), (7, .int (e2 (25 * a_ + i))), (6, .int (nI i)), (5, .int (nI kk)), (4, .int (nI b_)), (3, .int (nI a_)), (0, .ref ho), (1, .int (nI bs)), (2, .int (nI k))] := hl
              refine lv_iload hx hb kd_Mo_work_123 (lv_at hl 3 rfl) ?_
              rcases (show kk = 7 from by omega) with hk125
              · refine kz_top (y := nI 7) (by rw [hk125]) ?_
                refine lv_tableIn hx hb kd_Mo_work_125 (by decide) (by decide) rfl rfl ?_
                refine lv_iinc (k := 2) (v := nI (i + 1)) hx hb kd_Mo_work_347 hl rfl (nI_add i 1) (by decide) rfl (fun ls hl => ?_)
                have hl : lv_has ls 9 [(6, .int (nI (i + 1))), (8, .int (nI (25 * k + i))), (7, .int (e2 (25 * a_ + i))), (5, .int (nI kk)), (4, .int (nI b_)), (3, .int (nI a_)), (0, .ref ho), (1, .int (nI bs)), (2, .int (nI k))] := hl
                refine lv_goto hx hb kd_Mo_work_350 rfl ?_
                exact ih91 (i + 1) e2 _ _ _ (by omega) (by omega) hout (fun L hL j hj _ => hin L hL j hj (by omega)) (lv_sub hl [0, 3, 4, 5, 6, 7, 8] rfl) U
        exact loop91 _ 0 u.1 _ _ _ (Nat.lt_succ_self _) (by omega) hu.1 (fun L hL j hj _ => by rw [h65]; exact (hu.2 (L a_) (hL a_ (hnf.2.2.2.1 (by omega)))) j hj) (lv_sub hl [0, 1, 2, 3, 4, 5, 6] rfl) U
  · refine lv_aload_n hx hb kd_Mo_work_36 rfl (lv_at hl 3 rfl) ?_
    refine lv_iload_n hx hb kd_Mo_work_37 rfl (lv_at hl 5 rfl) ?_
    refine lv_iload_n hx hb kd_Mo_work_38 rfl (lv_at hl 2 rfl) ?_
    refine lv_iload hx hb kd_Mo_work_39 (lv_at hl 1 rfl) ?_
    refine lv_aload_n hx hb kd_Mo_work_41 rfl (lv_at hl 3 rfl) ?_
    refine kg_Mo_31 X U 0 rfl rfl kd_Mo_work_42 ?_
    refine kz_ic X 3 kd_Mo_work_45 (by decide) ?_
    refine lv_iload_n hx hb kd_Mo_work_46 rfl (lv_at hl 4 rfl) ?_
    refine lv_iload_n hx hb kd_Mo_work_47 rfl (lv_at hl 5 rfl) ?_
    refine kz_iadd X kd_Mo_work_48 ?_
    refine kz_top (y := nI (bs + k)) rfl ?_
    refine kz_imul X kd_Mo_work_49 ?_
    refine kz_top (y := nI (3 * (bs + k))) rfl ?_
    refine kz_iald (k := 3 * (bs + k)) X U 4 rfl (by omega) (by omega) kd_Mo_work_50 ?_
    refine kz_top (y := nI mm) (hmm h33) ?_
    refine kz_cVv (av := [.int (nI k), .int (nI a_), .int (nI b_), .int (nI mm)]) (rest := []) (wr := [(mk, .inl (q 0, 384, .inl (fun x_ => nI (kd x_)))), (m1, .inl (q 0, 384, .inl (fun x_ => nI (on x_)))), (m2, .inl (q 0, 384, .inl (fun x_ => nI (tw x_)))), (ms, .inl (q 0, 1152, .inl se)), (mj, .inl (q 0, 24, .inl (fun x_ => nI (t x_))))]) X U hl.1 (cm_Mo_times l D q ho mb mt mw mc mk m1 m2 ms mu mi mr mn mp mj me mh sz ln wn dp st_ im en lo_ ex ds k a_ b_ mm t es th hk (hnf.2.2.2.1 (by omega)) hen (hnf.2.2.2.2.2 (by omega)).1 (hnf.2.2.2.2.2 (by omega)).2.1 (hnf.2.2.2.2.2 (by omega)).2.2) (by decide) (by decide) ⟨by decide, by decide⟩ tb_610 tb_612 tb_s39 0 rfl rfl tb_11 tb_613 kq_Mo_times [0, 6, 7] [1, 2, 3, 4, 5] (by decide) rfl rfl (by decide) (by decide) rfl (Nat.le_of_ble_eq_true rfl) kd_Mo_work_51 (fun u H locs hu U => ?_)
    have U : kz_U D q s A [(ho, .inr (6, [.ref mb, .int (nI sz), .ref mt, .int (nI ln), .ref mw, .int (nI wn), .ref mc, .ref mk, .ref m1, .ref m2, .ref ms, .int (nI dp), .ref mu, .ref mi, .ref mr, .ref mn, .ref mp, .int (nI st_), .int lo_, .int (nI im), .int (nB ex), .ref mj, .int (nI en), .ref me, .ref mh, .int (nB ds)])), (mk, .inl (q 0, 384, .inl (fun x_ => nI (kd x_)))), (m1, .inl (q 0, 384, .inl (fun x_ => nI (on x_)))), (m2, .inl (q 0, 384, .inl (fun x_ => nI (tw x_)))), (ms, .inl (q 0, 1152, .inl se)), (mj, .inl (q 0, 24, .inl (fun x_ => nI (t x_)))), (me, .inl (q 0, 3200, .inl u.1)), (mh, .inl (q 0, 25, .inl u.2))] H locs := U.sub [5, 0, 1, 2, 3, 4, 6, 7] (by decide) rfl
    refine lv_iload hx hb kd_Mo_work_54 (lv_at hl 0 rfl) ?_
    refine kz_bp X 6 kd_Mo_work_56 (by decide) ?_
    refine kz_iceq X (by first | omega | (have := hnf.1; have := hnf.2.1; have := hnf.2.2.1; omega) | (have := htc i (by omega); omega)) (by first | omega | (have := hnf.1; have := hnf.2.1; have := hnf.2.2.1; omega) | (have := htc i (by omega); omega)) kd_Mo_work_58 rfl (fun h58 => absurd h58 (by omega)) (fun h58 => ?_)
    refine lv_iload hx hb kd_Mo_work_61 (lv_at hl 0 rfl) ?_
    refine kz_bp X 7 kd_Mo_work_63 (by decide) ?_
    refine kz_icne X (by first | omega | (have := hnf.1; have := hnf.2.1; have := hnf.2.2.1; omega) | (have := htc i (by omega); omega)) (by first | omega | (have := hnf.1; have := hnf.2.1; have := hnf.2.2.1; omega) | (have := htc i (by omega); omega)) kd_Mo_work_65 rfl (fun h65 => ?_) (fun h65 => absurd h65 (by omega))
    refine kz_ic X 0 kd_Mo_work_88 (by decide) ?_
    refine lv_istore hx hb kd_Mo_work_89 hl (by decide) rfl (fun ls hl => ?_)
    have hl : lv_has ls 9 [(6, .int (nI 0)), (5, .int (nI kk)), (4, .int (nI b_)), (3, .int (nI a_)), (0, .ref ho), (1, .int (nI bs)), (2, .int (nI k))] := hl
    have loop91 : ∀ (fuel : Nat) (i : Nat) (e2 : Nat → Int32) (ls : Array Slot) (H : Heap) (locs : List Loc), en + 2 - i < fuel → (i ≤ en + 1) → (∀ j, (j < 25 * k ∨ 25 * k + 25 ≤ j) → e2 j = es j) → (∀ L : Nat → dm_L, (∀ n, n < k → mo_is en t (L n) (fun j => es (25 * n + j))) → ∀ j, j ≤ en → (j < i ∨ kk = 6 ∨ kk = 7 ∨ kk = 9) → mo_at en t j (nd_sem kk a_ b_ mm (nd_hs se (bs + k)) L) (e2 (25 * k + j))) → lv_has ls 9 [(6, .int (nI i)), (5, .int (nI kk)), (4, .int (nI b_)), (3, .int (nI a_)), (0, .ref ho), (1, .int (nI bs)), (2, .int (nI k))] → kz_U D q s A [(ho, .inr (6, [.ref mb, .int (nI sz), .ref mt, .int (nI ln), .ref mw, .int (nI wn), .ref mc, .ref mk, .ref m1, .ref m2, .ref ms, .int (nI dp), .ref mu, .ref mi, .ref mr, .ref mn, .ref mp, .int (nI st_), .int lo_, .int (nI im), .int (nB ex), .ref mj, .int (nI en), .ref me, .ref mh, .int (nB ds)])), (mk, .inl (q 0, 384, .inl (fun x_ => nI (kd x_)))), (m1, .inl (q 0, 384, .inl (fun x_ => nI (on x_)))), (m2, .inl (q 0, 384, .inl (fun x_ => nI (tw x_)))), (ms, .inl (q 0, 1152, .inl se)), (mj, .inl (q 0, 24, .inl (fun x_ => nI (t x_)))), (me, .inl (q 0, 3200, .inl e2)), (mh, .inl (q 0, 25, .inl u.2))] H locs → W p l e (kz_rm 2) s m args below meth c H locs 0 0 Q (F0 m 91 ls []) := by
      intro fuel
      induction fuel with
      | zero => intro i e2 ls H locs hme; exact absurd hme (Nat.not_lt_zero _)
      | succ fuel ih91 =>
        intro i e2 ls H locs hme hi hout hin hl U
        refine lv_iload hx hb kd_Mo_work_91 (lv_at hl 0 rfl) ?_
        refine lv_aload_n hx hb kd_Mo_work_93 rfl (lv_at hl 4 rfl) ?_
        refine kg_Mo_142 X U 0 rfl rfl kd_Mo_work_94 ?_
        refine kz_icgt X (by first | omega | (have := hnf.1; have := hnf.2.1; have := hnf.2.2.1; omega) | (have := htc i (by omega); omega)) (by first | omega | (have := hnf.1; have := hnf.2.1; have := hnf.2.2.1; omega) | (have := htc i (by omega); omega)) kd_Mo_work_97 rfl (fun h97 => ?_) (fun h97 => ?_)
        · exact kz_ev hQ hA X U ((e2, u.2)) rfl (⟨hout, fun L hL j hj => hin L hL j hj (by omega)⟩) kd_Mo_work_353
        · have hE : ∀ L : Nat → dm_L, (∀ n, n < k → mo_is en t (L n) (fun j => es (25 * n + j))) → ∀ n, n < k → mo_is en t (L n) (fun j => e2 (25 * n + j)) := fun L hL n hn => mo_is_congr (hL n hn) (fun j hj => hout (25 * n + j) (Or.inl (by omega)))
          refine lv_aload_n hx hb kd_Mo_work_100 rfl (lv_at hl 4 rfl) ?_
          refine kg_Mo_52 X U 0 rfl rfl kd_Mo_work_101 ?_
          refine kz_bp X 25 kd_Mo_work_104 (by decide) ?_
          refine lv_iload_n hx hb kd_Mo_work_106 rfl (lv_at hl 3 rfl) ?_
          refine kz_imul X kd_Mo_work_107 ?_
          refine kz_top (y := nI (25 * a_)) rfl ?_
          refine lv_iload hx hb kd_Mo_work_108 (lv_at hl 0 rfl) ?_
          refine kz_iadd X kd_Mo_work_110 ?_
          refine kz_top (y := nI (25 * a_ + i)) rfl ?_
          refine kz_iald (k := 25 * a_ + i) X U 6 rfl (by omega) (by omega) kd_Mo_work_111 ?_
          refine lv_istore hx hb kd_Mo_work_112 hl (by decide) rfl (fun ls hl => ?_)
          have hl : lv_has ls 9 [(7, .int (e2 (25 * a_ + i))), (6, .int (nI i)), (5, .int (nI kk)), (4, .int (nI b_)), (3, .int (nI a_)), (0, .ref ho), (1, .int (nI bs)), (2, .int (nI k))] := hl
          refine kz_bp X 25 kd_Mo_work_114 (by decide) ?_
          refine lv_iload_n hx hb kd_Mo_work_116 rfl (lv_at hl 7 rfl) ?_
          refine kz_imul X kd_Mo_work_117 ?_
          refine kz_top (y := nI (25 * k)) rfl ?_
          refine lv_iload hx hb kd_Mo_work_118 (lv_at hl 1 rfl) ?_
          refine kz_iadd X kd_Mo_work_120 ?_
          refine kz_top (y := nI (25 * k + i)) rfl ?_
          refine lv_istore hx hb kd_Mo_work_121 hl (by decide) rfl (fun ls hl => ?_)
          have hl : lv_has ls 9 [(8, .int (nI (25 * k + i))), (7, .int (e2 (25 * a_ + i))), (6, .int (nI i)), (5, .int (nI kk)), (4, .int (nI b_)), (3, .int (nI a_)), (0, .ref ho), (1, .int (nI bs)), (2, .int (nI k))] := hl
          refine lv_iload hx hb kd_Mo_work_123 (lv_at hl 3 rfl) ?_
          rcases (show kk = 9 from by omega) with hk125
          · refine kz_top (y := nI 9) (by rw [hk125]) ?_
            refine lv_tableOut hx hb kd_Mo_work_125 (by decide) rfl ?_
            refine lv_iinc (k := 2) (v := nI (i + 1)) hx hb kd_Mo_work_347 hl rfl (nI_add i 1) (by decide) rfl (fun ls hl => ?_)
            have hl : lv_has ls 9 [(6, .int (nI (i + 1))), (8, .int (nI (25 * k + i))), (7, .int (e2 (25 * a_ + i))), (5, .int (nI kk)), (4, .int (nI b_)), (3, .int (nI a_)), (0, .ref ho), (1, .int (nI bs)), (2, .int (nI k))] := hl
            refine lv_goto hx hb kd_Mo_work_350 rfl ?_
            exact ih91 (i + 1) e2 _ _ _ (by omega) (by omega) hout (fun L hL j hj _ => hin L hL j hj (by omega)) (lv_sub hl [0, 3, 4, 5, 6, 7, 8] rfl) U
    exact loop91 _ 0 u.1 _ _ _ (Nat.lt_succ_self _) (by omega) hu.1 (fun L hL j hj _ => by rw [h33]; exact (hu.2 (L a_) (hL a_ (hnf.2.2.2.1 (by omega)))) j hj) (lv_sub hl [0, 1, 2, 3, 4, 5, 6] rfl) U
