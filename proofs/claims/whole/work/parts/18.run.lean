def kz_so (r : Nat → Nat) : Nat → Option Nat := fun i => if i < 41 then some (r i) else none
section KA
variable {p : Program} {l : Launch} {e : Env} {R : Room} {s : State} {m : MethodId} {args : Array Value} {below : List Frame} {meth : Method} {c : Code} {H : Heap} {locs : List Loc} {cells slots : Nat} {Q : State → Prop}
variable {cc : ByteArray} {pc nL : Nat} {ls : Array Slot} {rest : List Value} {own : String} {ret : Option FieldType} {D : va_G} {q : Nat → ClassId} {A : Nat → Prop} {ws wc : va_W}
theorem kz_aaldG (X : kz_C p m c cc nL own s args meth ret) (U : kz_U D q s A ws H locs) (q0 : Nat) {a k n v : Nat} {f : Nat → Option Nat} (ha : ws[q0]? = some (a, .inl (q 4, n, .inr (.inr (.inr (.inr f)))))) (hk : k < n) (hn : n < 2 ^ 31) (hf : f k = some v) (hdg : decode cc pc = .ok (.aaload, 1)) (kk : W p l e R s m args below meth c H locs cells slots Q (F0 m (pc + 1) ls (.ref v :: rest))) : W p l e R s m args below meth c H locs cells slots Q (F0 m pc ls (.int (nI k) :: .ref a :: rest)) := by
  have hc : (nI k).toNatClampNeg = k := nI_clamp (by omega)
  refine W.aald (v := .ref v) (ty := .array .int) X.1 X.2.1 (U.2.1 q0 _ ha) ((U.1.1.2 4 _ rfl).1 n (fun j => va_rf (f j))) rfl (fun z => by cases z) (by show ¬ (nI k < 0 ∨ (arrV _ _ _).slots.size ≤ _); rw [arrV_size]; exact vp_in_nI hk hn) (by show (arrV _ _ _).slots[_]? = _; rw [hc, arrV_read _ _ hk, hf]; rfl) rfl rfl hdg kk
theorem kz_aaldJ (X : kz_C p m c cc nL own s args meth ret) (U : kz_U D q s A ws H locs) (q0 : Nat) {a k : Nat} {r : Nat → Nat} (ha : ws[q0]? = some (a, .inl (q 4, 41, .inr (.inr (.inr (.inr (kz_so r))))))) (hk : k < 41) (hdg : decode cc pc = .ok (.aaload, 1)) (kk : W p l e R s m args below meth c H locs cells slots Q (F0 m (pc + 1) ls (.ref (r k) :: rest))) : W p l e R s m args below meth c H locs cells slots Q (F0 m pc ls (.int (nI k) :: .ref a :: rest)) := kz_aaldG X U q0 ha hk (by omega) (if_pos hk) hdg kk
end KA
def dm_bin (f : dm_L → dm_L → dm_L) : List dm_L → List dm_L
  | y :: x :: st => f x y :: st
  | st => st
def dm_un (f : dm_L → dm_L) : List dm_L → List dm_L
  | y :: st => f y :: st
  | st => st
/-- what a step (kind, low, high + 1) does to a stack of languages -/
def dm_st1 (i : Nat × Nat × Nat) (st : List dm_L) : List dm_L := if i.1 = 0 then dm_eps :: st else if i.1 = 1 then dm_rng i.2.1 (i.2.2 - 1) :: st else if i.1 = 2 then dm_bin dm_cat st else if i.1 = 3 then dm_bin dm_or st else if i.1 = 4 then dm_bin dm_and st else if i.1 = 5 then dm_un dm_not st else dm_un (fun A => dm_rep A i.2.1 i.2.2) st
def dm_den (P : List (Nat × Nat × Nat)) (st : List dm_L) : List dm_L := P.foldl (fun st i => dm_st1 i st) st
def dm_h (k h : Nat) : Nat := if k ≤ 1 then h + 1 else if k ≤ 4 then h - 1 else h
def dm_fine (i : Nat × Nat × Nat) : Prop := i.1 ≤ 6 ∧ i.2.1 < 65536 ∧ i.2.2 ≤ 65536 ∧ (i.1 = 6 → i.2.1 < 100 ∧ i.2.2 < 100 ∧ (i.2.2 = 0 ∨ i.2.1 < i.2.2)) ∧ (i.1 = 1 → 0 < i.2.2)
/-- each step finds its values and its rows; one value is left -/
def dm_ok : List (Nat × Nat × Nat) → Nat → Prop
  | [], h => h = 1
  | i :: P, h => dm_fine i ∧ kn_tk i.1 ≤ h ∧ h < 41 ∧ dm_ok P (dm_h i.1 h)
def dm_rw (n M : Nat) (t : Nat → Nat) : List dm_L → (Nat → Nat → Int32) → Prop
  | [], _ => True
  | A :: st, F => ro_is n M t A (F st.length) ∧ dm_rw n M t st F
theorem dm_rw_congr {n M : Nat} {t : Nat → Nat} : ∀ {st : List dm_L} {F F' : Nat → Nat → Int32}, dm_rw n M t st F → (∀ i, i < st.length → F' i = F i) → dm_rw n M t st F'
  | [], _, _, _, _ => trivial
  | A :: st, F, F', h, e => ⟨by rw [e st.length (by simp)]; exact h.1, dm_rw_congr h.2 (fun i hi => e i (by simp; omega))⟩
theorem dm_rw_set {n M : Nat} {t : Nat → Nat} {st : List dm_L} {F F' : Nat → Nat → Int32} {A : dm_L} {g : Nat → Int32} (hr : dm_rw n M t st F) (hg : ro_is n M t A g) (h1 : F' st.length = g) (h2 : ∀ i, i < st.length → F' i = F i) : dm_rw n M t (A :: st) F' := ⟨by rw [h1]; exact hg, dm_rw_congr hr h2⟩
theorem va_up_ne' {α : Type} {f : Nat → α} {k j : Nat} {v : α} (h : j ≠ k) : va_up f k v j = f j := if_neg h
theorem va_up_eq' {α : Type} {f : Nat → α} {k : Nat} {v : α} : va_up f k v k = v := if_pos rfl

set_option maxHeartbeats 4000000 in
set_option maxRecDepth 100000 in
theorem cm_Mc_run (l : Launch) (D : va_G) (q : Nat → ClassId) (hm hs hp ak al ah h0 h1 n M cn : Nat) (P : List (Nat × Nat × Nat)) (fk fl fh : Nat → Int32) (t : Nat → Nat) (r : Nat → Nat) (F0_ : Nat → Nat → Int32) (hP81 : P.length ≤ 81) (hPk : ∀ j (h : j < P.length), fk j = nI (P[j]).1 ∧ fl j = nI (P[j]).2.1 ∧ fh j = nI (P[j]).2.2 + (-1)) (hokP : dm_ok P 0) (hcn : n ≤ cn) (hcn2 : cn ≤ 84) (ht : ∀ j, t j < 65536) (hM1 : 1 ≤ M) (hn : n ≤ 84) (hM : M ≤ 24) : kz_Mr (S := Nat → Nat → Int32) l ky_Mc_run kb_Mc_run 7 (some (.array .int)) 5 D q [.ref hm, .ref hp, .ref h0] ([(hm, .inr (1, [.ref hs])), (hs, .inl (q 4, 41, .inr (.inr (.inr (.inr (kz_so r)))))), (hp, .inr (3, [.ref ak, .ref al, .ref ah, .int (nI P.length)])), (ak, .inl (q 0, 81, .inl fk)), (al, .inl (q 0, 81, .inl fl)), (ah, .inl (q 0, 81, .inl fh)), (h0, .inr (0, [.ref h1, .int (nI n), .int (nI M)])), (h1, .inl (q 1, cn, .inl (fun j => nI (t j))))] ++ kz_st q r F0_ (List.range 41)) ((r 0)) (fun F => ∀ B, dm_den P [] = [B] → ro_is n M t B (F 0)) (fun F => [(hm, .inr (1, [.ref hs])), (hs, .inl (q 4, 41, .inr (.inr (.inr (.inr (kz_so r)))))), (hp, .inr (3, [.ref ak, .ref al, .ref ah, .int (nI P.length)])), (ak, .inl (q 0, 81, .inl fk)), (al, .inl (q 0, 81, .inl fl)), (ah, .inl (q 0, 81, .inl fh)), (h0, .inr (0, [.ref h1, .int (nI n), .int (nI M)])), (h1, .inl (q 1, cn, .inl (fun j => nI (t j))))] ++ kz_st q r F (List.range 41)) := by
  intro sz
  refine kz_go (by decide +kernel) (Nat.le_of_ble_eq_true rfl) ?_
  intro p e s m below meth c ls args A Q H locs hQ hA X U hl
  have hx := X.1
  have hb := X.2.1
  have hl : lv_has ls 7 [(0, .ref hm), (1, .ref hp), (2, .ref h0)] := hl
  refine kz_ic X 0 kd_Mc_run_0 (by decide) ?_
  refine lv_istore_n hx hb kd_Mc_run_1 rfl hl (by decide) rfl (fun ls hl => ?_)
  have hl : lv_has ls 7 [(3, .int (nI 0)), (0, .ref hm), (1, .ref hp), (2, .ref h0)] := hl
  refine kz_ic X 0 kd_Mc_run_2 (by decide) ?_
  refine lv_istore hx hb kd_Mc_run_3 hl (by decide) rfl (fun ls hl => ?_)
  have hl : lv_has ls 7 [(4, .int (nI 0)), (3, .int (nI 0)), (0, .ref hm), (1, .ref hp), (2, .ref h0)] := hl
  have loop5 : ∀ (fuel : Nat) (j : Nat) (st : List dm_L) (F : Nat → Nat → Int32) (ls : Array Slot) (H : Heap) (locs : List Loc), P.length + 1 - j < fuel → (j ≤ P.length) → (dm_ok (P.drop j) st.length) → (dm_den P [] = dm_den (P.drop j) st) → (dm_rw n M t st F) → lv_has ls 7 [(4, .int (nI j)), (3, .int (nI st.length)), (0, .ref hm), (1, .ref hp), (2, .ref h0)] → kz_U D q s A ([(hm, .inr (1, [.ref hs])), (hs, .inl (q 4, 41, .inr (.inr (.inr (.inr (kz_so r)))))), (hp, .inr (3, [.ref ak, .ref al, .ref ah, .int (nI P.length)])), (ak, .inl (q 0, 81, .inl fk)), (al, .inl (q 0, 81, .inl fl)), (ah, .inl (q 0, 81, .inl fh)), (h0, .inr (0, [.ref h1, .int (nI n), .int (nI M)])), (h1, .inl (q 1, cn, .inl (fun j => nI (t j))))] ++ kz_st q r F (List.range 41)) H locs → W p l e (kz_rm 5) s m args below meth c H locs 0 0 Q (F0 m 5 ls []) := by
    intro fuel
    induction fuel with
    | zero => intro j st F ls H locs hme; exact absurd hme (Nat.not_lt_zero _)
    | succ fuel ih5 =>
      intro j st F ls H locs hme hj hok hden hrw hl U
      refine lv_iload hx hb kd_Mc_run_5 (lv_at hl 0 rfl) ?_
      refine lv_aload_n hx hb kd_Mc_run_7 rfl (lv_at hl 3 rfl) ?_
      refine kg_Mc_16 X U 2 rfl rfl kd_Mc_run_8 ?_
      refine kz_icge X (by omega) (by omega) kd_Mc_run_11 rfl (fun h11 => ?_) (fun h11 => ?_)
      · refine lv_aload_n hx hb kd_Mc_run_243 rfl (lv_at hl 2 rfl) ?_
        refine kg_Mc_11 X U 0 rfl rfl kd_Mc_run_244 ?_
        refine kz_ic X 0 kd_Mc_run_247 (by decide) ?_
        refine kz_aaldJ (k := 0) X U 1 rfl (by omega) kd_Mc_run_248 ?_
        exact kz_er hQ hA X (by first | exact Or.inl ⟨_, rfl⟩ | exact Or.inr ⟨_, rfl⟩) U F rfl (fun B hB => by
      have hj2 : j = P.length := by omega
      rw [hj2, List.drop_length] at hden hok
      rw [hden] at hB
      have hB : st = [B] := hB
      subst hB
      exact hrw.1) kd_Mc_run_249
      · have hd : P.drop j = P[j] :: P.drop (j + 1) := List.drop_eq_getElem_cons h11
        obtain ⟨hfk, hfl, hfh⟩ := hPk j h11
        obtain ⟨⟨k, a, b⟩, hi⟩ : ∃ i, i = P[j] := ⟨_, rfl⟩
        rw [hd, ← hi] at hok hden
        rw [← hi] at hfk hfl hfh
        obtain ⟨⟨hk6, ha, hb_, hrep, hrng⟩, htk, hh41, hok⟩ := hok
        dsimp only at hfk hfl hfh hk6 ha hb_ hrep hrng htk hok
        refine lv_aload_n hx hb kd_Mc_run_14 rfl (lv_at hl 3 rfl) ?_
        refine kg_Mc_22 X U 2 rfl rfl kd_Mc_run_15 ?_
        refine lv_iload hx hb kd_Mc_run_18 (lv_at hl 0 rfl) ?_
        refine kz_iald (k := j) X U 3 rfl (by omega) (by omega) kd_Mc_run_20 ?_
        refine kz_top (y := nI k) hfk ?_
        refine lv_iload_n hx hb kd_Mc_run_21 rfl (lv_at hl 1 rfl) ?_
        refine kz_cSiT (av := [.int (nI k), .int (nI st.length)]) (rest := []) (wr := [(hm, .inr (1, [.ref hs])), (hs, .inl (q 4, 41, .inr (.inr (.inr (.inr (kz_so r)))))), (hp, .inr (3, [.ref ak, .ref al, .ref ah, .int (nI P.length)])), (ak, .inl (q 0, 81, .inl fk)), (al, .inl (q 0, 81, .inl fl)), (ah, .inl (q 0, 81, .inl fh)), (h0, .inr (0, [.ref h1, .int (nI n), .int (nI M)])), (h1, .inl (q 1, cn, .inl (fun j => nI (t j))))] ++ kz_st q r F (List.range 41)) X U hl.1 (cm_Mc_hasRowsFor l D q k st.length hk6 (by omega)) (by decide) (by decide) ⟨by decide, by decide⟩ tb_335 tb_336 tb_10 tb_337 kq_Mc_hasRowsFor (kz_pmT (wc := []) (wr := [(hm, .inr (1, [.ref hs])), (hs, .inl (q 4, 41, .inr (.inr (.inr (.inr (kz_so r)))))), (hp, .inr (3, [.ref ak, .ref al, .ref ah, .int (nI P.length)])), (ak, .inl (q 0, 81, .inl fk)), (al, .inl (q 0, 81, .inl fl)), (ah, .inl (q 0, 81, .inl fh)), (h0, .inr (0, [.ref h1, .int (nI n), .int (nI M)])), (h1, .inl (q 1, cn, .inl (fun j => nI (t j))))]) [0, 1, 2, 3, 4, 5, 6, 7] (n := 8) (by decide) rfl rfl) rfl (Nat.le_of_ble_eq_true rfl) kd_Mc_run_22 (fun rv _ H locs hp U => ?_)
        subst hp
        have U : kz_U D q s A ([(hm, .inr (1, [.ref hs])), (hs, .inl (q 4, 41, .inr (.inr (.inr (.inr (kz_so r)))))), (hp, .inr (3, [.ref ak, .ref al, .ref ah, .int (nI P.length)])), (ak, .inl (q 0, 81, .inl fk)), (al, .inl (q 0, 81, .inl fl)), (ah, .inl (q 0, 81, .inl fh)), (h0, .inr (0, [.ref h1, .int (nI n), .int (nI M)])), (h1, .inl (q 1, cn, .inl (fun j => nI (t j))))] ++ kz_st q r F (List.range 41)) H locs := U.perm (kz_pmB (w1 := []) (wr := [(hm, .inr (1, [.ref hs])), (hs, .inl (q 4, 41, .inr (.inr (.inr (.inr (kz_so r)))))), (hp, .inr (3, [.ref ak, .ref al, .ref ah, .int (nI P.length)])), (ak, .inl (q 0, 81, .inl fk)), (al, .inl (q 0, 81, .inl fl)), (ah, .inl (q 0, 81, .inl fh)), (h0, .inr (0, [.ref h1, .int (nI n), .int (nI M)])), (h1, .inl (q 1, cn, .inl (fun j => nI (t j))))]) [0, 1, 2, 3, 4, 5, 6, 7] (n := 8) (by decide) rfl rfl)
        refine kz_ifeqB X kd_Mc_run_25 rfl (fun h25 => absurd h25 (by rw [decide_eq_true ⟨htk, hh41⟩]; decide)) (fun h25 => ?_)
        refine lv_aload_n hx hb kd_Mc_run_28 rfl (lv_at hl 3 rfl) ?_
        refine kg_Mc_30 X U 2 rfl rfl kd_Mc_run_29 ?_
        refine lv_iload hx hb kd_Mc_run_32 (lv_at hl 0 rfl) ?_
        refine kz_iald (k := j) X U 4 rfl (by omega) (by omega) kd_Mc_run_34 ?_
        refine kz_top (y := nI a) hfl ?_
        refine lv_istore hx hb kd_Mc_run_35 hl (by decide) rfl (fun ls hl => ?_)
        have hl : lv_has ls 7 [(5, .int (nI a)), (4, .int (nI j)), (3, .int (nI st.length)), (0, .ref hm), (1, .ref hp), (2, .ref h0)] := hl
        refine lv_aload_n hx hb kd_Mc_run_37 rfl (lv_at hl 4 rfl) ?_
        refine kg_Mc_33 X U 2 rfl rfl kd_Mc_run_38 ?_
        refine lv_iload hx hb kd_Mc_run_41 (lv_at hl 1 rfl) ?_
        refine kz_iald (k := j) X U 5 rfl (by omega) (by omega) kd_Mc_run_43 ?_
        refine kz_top (y := nI b + (-1)) hfh ?_
        refine lv_istore hx hb kd_Mc_run_44 hl (by decide) rfl (fun ls hl => ?_)
        have hl : lv_has ls 7 [(6, .int (nI b + (-1))), (5, .int (nI a)), (4, .int (nI j)), (3, .int (nI st.length)), (0, .ref hm), (1, .ref hp), (2, .ref h0)] := hl
        refine lv_aload_n hx hb kd_Mc_run_46 rfl (lv_at hl 5 rfl) ?_
        refine kg_Mc_22 X U 2 rfl rfl kd_Mc_run_47 ?_
        refine lv_iload hx hb kd_Mc_run_50 (lv_at hl 2 rfl) ?_
        refine kz_iald (k := j) X U 3 rfl (by omega) (by omega) kd_Mc_run_52 ?_
        refine kz_top (y := nI k) hfk ?_
        rcases (show k = 0 ∨ k = 1 ∨ k = 2 ∨ k = 3 ∨ k = 4 ∨ k = 5 ∨ k = 6 from by omega) with hk53 | hk53 | hk53 | hk53 | hk53 | hk53 | hk53
        · refine kz_top (y := nI 0) (by rw [hk53]) ?_
          refine lv_tableIn hx hb kd_Mc_run_53 (by decide) (by decide) rfl rfl ?_
          refine lv_aload_n hx hb kd_Mc_run_92 rfl (lv_at hl 6 rfl) ?_
          refine lv_aload_n hx hb kd_Mc_run_93 rfl (lv_at hl 4 rfl) ?_
          refine kg_Mc_11 X U 0 rfl rfl kd_Mc_run_94 ?_
          refine lv_iload_n hx hb kd_Mc_run_97 rfl (lv_at hl 3 rfl) ?_
          refine kz_aaldJ (k := st.length) X U 1 rfl (by omega) kd_Mc_run_98 ?_
          have U := kz_tk1 (h := st.length) U (List.mem_range.mpr (by omega))
          have U : kz_U D q s A ([(hm, .inr (1, [.ref hs])), (hs, .inl (q 4, 41, .inr (.inr (.inr (.inr (kz_so r)))))), (hp, .inr (3, [.ref ak, .ref al, .ref ah, .int (nI P.length)])), (ak, .inl (q 0, 81, .inl fk)), (al, .inl (q 0, 81, .inl fl)), (ah, .inl (q 0, 81, .inl fh)), (h0, .inr (0, [.ref h1, .int (nI n), .int (nI M)])), (h1, .inl (q 1, cn, .inl (fun j => nI (t j)))), ((r st.length), .inl (q 0, 85, .inl (F st.length)))] ++ kz_st q r F ((List.range 41).erase st.length)) H locs := U
          refine kz_cSvT (av := [.ref h0, .ref ((r st.length))]) (rest := []) (wr := [(hm, .inr (1, [.ref hs])), (hs, .inl (q 4, 41, .inr (.inr (.inr (.inr (kz_so r)))))), (hp, .inr (3, [.ref ak, .ref al, .ref ah, .int (nI P.length)])), (ak, .inl (q 0, 81, .inl fk)), (al, .inl (q 0, 81, .inl fl)), (ah, .inl (q 0, 81, .inl fh)), (h1, .inl (q 1, cn, .inl (fun j => nI (t j))))] ++ kz_st q r F ((List.range 41).erase st.length)) X U hl.1 (cm_Mc_putEmpty l D q h0 h1 n M (r st.length) (F st.length) hn hM) (by decide) (by decide) ⟨by decide, by decide⟩ tb_341 tb_342 tb_10 tb_343 kq_Mc_putEmpty (kz_pmT (wc := [(h0, .inr (0, [.ref h1, .int (nI n), .int (nI M)])), ((r st.length), .inl (q 0, 85, .inl (F st.length)))]) (wr := [(hm, .inr (1, [.ref hs])), (hs, .inl (q 4, 41, .inr (.inr (.inr (.inr (kz_so r)))))), (hp, .inr (3, [.ref ak, .ref al, .ref ah, .int (nI P.length)])), (ak, .inl (q 0, 81, .inl fk)), (al, .inl (q 0, 81, .inl fl)), (ah, .inl (q 0, 81, .inl fh)), (h1, .inl (q 1, cn, .inl (fun j => nI (t j))))]) [6, 8, 0, 1, 2, 3, 4, 5, 7] (n := 9) (by decide) rfl rfl) rfl (Nat.le_of_ble_eq_true rfl) kd_Mc_run_99 (fun _ H locs _ U => ?_)
          have U : kz_U D q s A ([(hm, .inr (1, [.ref hs])), (hs, .inl (q 4, 41, .inr (.inr (.inr (.inr (kz_so r)))))), (hp, .inr (3, [.ref ak, .ref al, .ref ah, .int (nI P.length)])), (ak, .inl (q 0, 81, .inl fk)), (al, .inl (q 0, 81, .inl fl)), (ah, .inl (q 0, 81, .inl fh)), (h0, .inr (0, [.ref h1, .int (nI n), .int (nI M)])), (h1, .inl (q 1, cn, .inl (fun j => nI (t j)))), ((r st.length), .inl (q 0, 85, .inl (kz_fl (fun _ => 1) (F st.length) (n + 1))))] ++ kz_st q r F ((List.range 41).erase st.length)) H locs := U.perm (kz_pmB (w1 := [(h0, .inr (0, [.ref h1, .int (nI n), .int (nI M)])), ((r st.length), .inl (q 0, 85, .inl (kz_fl (fun _ => 1) (F st.length) (n + 1))))]) (wr := [(hm, .inr (1, [.ref hs])), (hs, .inl (q 4, 41, .inr (.inr (.inr (.inr (kz_so r)))))), (hp, .inr (3, [.ref ak, .ref al, .ref ah, .int (nI P.length)])), (ak, .inl (q 0, 81, .inl fk)), (al, .inl (q 0, 81, .inl fl)), (ah, .inl (q 0, 81, .inl fh)), (h1, .inl (q 1, cn, .inl (fun j => nI (t j))))]) [0, 1, 2, 3, 4, 5, 7, 6, 8] (n := 9) (by decide) rfl rfl)
          have U := kz_bk1 (h := st.length) (X := [(hm, .inr (1, [.ref hs])), (hs, .inl (q 4, 41, .inr (.inr (.inr (.inr (kz_so r)))))), (hp, .inr (3, [.ref ak, .ref al, .ref ah, .int (nI P.length)])), (ak, .inl (q 0, 81, .inl fk)), (al, .inl (q 0, 81, .inl fl)), (ah, .inl (q 0, 81, .inl fh)), (h0, .inr (0, [.ref h1, .int (nI n), .int (nI M)])), (h1, .inl (q 1, cn, .inl (fun j => nI (t j))))]) U (List.mem_range.mpr (by omega)) List.nodup_range
          have U : kz_U D q s A ([(hm, .inr (1, [.ref hs])), (hs, .inl (q 4, 41, .inr (.inr (.inr (.inr (kz_so r)))))), (hp, .inr (3, [.ref ak, .ref al, .ref ah, .int (nI P.length)])), (ak, .inl (q 0, 81, .inl fk)), (al, .inl (q 0, 81, .inl fl)), (ah, .inl (q 0, 81, .inl fh)), (h0, .inr (0, [.ref h1, .int (nI n), .int (nI M)])), (h1, .inl (q 1, cn, .inl (fun j => nI (t j))))] ++ kz_st q r (va_up F st.length (kz_fl (fun _ => 1) (F st.length) (n + 1))) (List.range 41)) H locs := U
          refine lv_iinc (k := 3) (v := nI (st.length + 1)) hx hb kd_Mc_run_102 hl rfl (nI_add st.length 1) (by decide) rfl (fun ls hl => ?_)
          have hl : lv_has ls 7 [(3, .int (nI (st.length + 1))), (6, .int (nI b + (-1))), (5, .int (nI a)), (4, .int (nI j)), (0, .ref hm), (1, .ref hp), (2, .ref h0)] := hl
          refine lv_goto hx hb kd_Mc_run_105 rfl ?_
          refine lv_iinc (k := 3) (v := nI (j + 1)) hx hb kd_Mc_run_237 hl rfl (nI_add j 1) (by decide) rfl (fun ls hl => ?_)
          have hl : lv_has ls 7 [(4, .int (nI (j + 1))), (3, .int (nI (st.length + 1))), (6, .int (nI b + (-1))), (5, .int (nI a)), (0, .ref hm), (1, .ref hp), (2, .ref h0)] := hl
          refine lv_goto hx hb kd_Mc_run_240 rfl ?_
          exact ih5 (j + 1) (dm_eps :: st) _ _ _ _ (by omega) (by omega) (by rw [hk53] at hok; exact hok) (by rw [hden, hk53]; rfl) (dm_rw_set (F' := va_up F st.length (kz_fl (fun _ => 1) (F st.length) (n + 1))) hrw (ro_fl (ro_eps_is (h := fun _ => 1) (fun _ _ => rfl))) va_up_eq' (fun i hi => by rw [va_up_ne' (by omega)])) (lv_sub hl [0, 1, 4, 5, 6] rfl) U
        · refine kz_top (y := nI 1) (by rw [hk53]) ?_
          refine lv_tableIn hx hb kd_Mc_run_53 (by decide) (by decide) rfl rfl ?_
          refine lv_aload_n hx hb kd_Mc_run_108 rfl (lv_at hl 6 rfl) ?_
          refine lv_aload_n hx hb kd_Mc_run_109 rfl (lv_at hl 4 rfl) ?_
          refine kg_Mc_11 X U 0 rfl rfl kd_Mc_run_110 ?_
          refine lv_iload_n hx hb kd_Mc_run_113 rfl (lv_at hl 3 rfl) ?_
          refine kz_aaldJ (k := st.length) X U 1 rfl (by omega) kd_Mc_run_114 ?_
          refine lv_iload hx hb kd_Mc_run_115 (lv_at hl 1 rfl) ?_
          refine lv_iload hx hb kd_Mc_run_117 (lv_at hl 0 rfl) ?_
          refine kz_top (y := nI (b - 1)) (sb_m1 (hrng hk53)) ?_
          have U := kz_tk1 (h := st.length) U (List.mem_range.mpr (by omega))
          have U : kz_U D q s A ([(hm, .inr (1, [.ref hs])), (hs, .inl (q 4, 41, .inr (.inr (.inr (.inr (kz_so r)))))), (hp, .inr (3, [.ref ak, .ref al, .ref ah, .int (nI P.length)])), (ak, .inl (q 0, 81, .inl fk)), (al, .inl (q 0, 81, .inl fl)), (ah, .inl (q 0, 81, .inl fh)), (h0, .inr (0, [.ref h1, .int (nI n), .int (nI M)])), (h1, .inl (q 1, cn, .inl (fun j => nI (t j)))), ((r st.length), .inl (q 0, 85, .inl (F st.length)))] ++ kz_st q r F ((List.range 41).erase st.length)) H locs := U
          refine kz_cSvT (av := [.ref h0, .ref ((r st.length)), .int (nI a), .int (nI (b - 1))]) (rest := []) (wr := [(hm, .inr (1, [.ref hs])), (hs, .inl (q 4, 41, .inr (.inr (.inr (.inr (kz_so r)))))), (hp, .inr (3, [.ref ak, .ref al, .ref ah, .int (nI P.length)])), (ak, .inl (q 0, 81, .inl fk)), (al, .inl (q 0, 81, .inl fl)), (ah, .inl (q 0, 81, .inl fh))] ++ kz_st q r F ((List.range 41).erase st.length)) X U hl.1 (cm_Mc_putRange l D q h0 h1 n M cn (r st.length) a (b - 1) t (F st.length) hcn hcn2 ht ha (by omega) hn hM) (by decide) (by decide) ⟨by decide, by decide⟩ tb_344 tb_345 tb_10 tb_346 kq_Mc_putRange (kz_pmT (wc := [(h0, .inr (0, [.ref h1, .int (nI n), .int (nI M)])), (h1, .inl (q 1, cn, .inl (fun j => nI (t j)))), ((r st.length), .inl (q 0, 85, .inl (F st.length)))]) (wr := [(hm, .inr (1, [.ref hs])), (hs, .inl (q 4, 41, .inr (.inr (.inr (.inr (kz_so r)))))), (hp, .inr (3, [.ref ak, .ref al, .ref ah, .int (nI P.length)])), (ak, .inl (q 0, 81, .inl fk)), (al, .inl (q 0, 81, .inl fl)), (ah, .inl (q 0, 81, .inl fh))]) [6, 7, 8, 0, 1, 2, 3, 4, 5] (n := 9) (by decide) rfl rfl) rfl (Nat.le_of_ble_eq_true rfl) kd_Mc_run_119 (fun _ H locs _ U => ?_)
          have U : kz_U D q s A ([(hm, .inr (1, [.ref hs])), (hs, .inl (q 4, 41, .inr (.inr (.inr (.inr (kz_so r)))))), (hp, .inr (3, [.ref ak, .ref al, .ref ah, .int (nI P.length)])), (ak, .inl (q 0, 81, .inl fk)), (al, .inl (q 0, 81, .inl fl)), (ah, .inl (q 0, 81, .inl fh)), (h0, .inr (0, [.ref h1, .int (nI n), .int (nI M)])), (h1, .inl (q 1, cn, .inl (fun j => nI (t j)))), ((r st.length), .inl (q 0, 85, .inl (kz_fl (fun j => if j < n ∧ a ≤ t j ∧ t j ≤ b - 1 then 2 else 0) (F st.length) (n + 1))))] ++ kz_st q r F ((List.range 41).erase st.length)) H locs := U.perm (kz_pmB (w1 := [(h0, .inr (0, [.ref h1, .int (nI n), .int (nI M)])), (h1, .inl (q 1, cn, .inl (fun j => nI (t j)))), ((r st.length), .inl (q 0, 85, .inl (kz_fl (fun j => if j < n ∧ a ≤ t j ∧ t j ≤ b - 1 then 2 else 0) (F st.length) (n + 1))))]) (wr := [(hm, .inr (1, [.ref hs])), (hs, .inl (q 4, 41, .inr (.inr (.inr (.inr (kz_so r)))))), (hp, .inr (3, [.ref ak, .ref al, .ref ah, .int (nI P.length)])), (ak, .inl (q 0, 81, .inl fk)), (al, .inl (q 0, 81, .inl fl)), (ah, .inl (q 0, 81, .inl fh))]) [0, 1, 2, 3, 4, 5, 6, 7, 8] (n := 9) (by decide) rfl rfl)
          have U := kz_bk1 (h := st.length) (X := [(hm, .inr (1, [.ref hs])), (hs, .inl (q 4, 41, .inr (.inr (.inr (.inr (kz_so r)))))), (hp, .inr (3, [.ref ak, .ref al, .ref ah, .int (nI P.length)])), (ak, .inl (q 0, 81, .inl fk)), (al, .inl (q 0, 81, .inl fl)), (ah, .inl (q 0, 81, .inl fh)), (h0, .inr (0, [.ref h1, .int (nI n), .int (nI M)])), (h1, .inl (q 1, cn, .inl (fun j => nI (t j))))]) U (List.mem_range.mpr (by omega)) List.nodup_range
          have U : kz_U D q s A ([(hm, .inr (1, [.ref hs])), (hs, .inl (q 4, 41, .inr (.inr (.inr (.inr (kz_so r)))))), (hp, .inr (3, [.ref ak, .ref al, .ref ah, .int (nI P.length)])), (ak, .inl (q 0, 81, .inl fk)), (al, .inl (q 0, 81, .inl fl)), (ah, .inl (q 0, 81, .inl fh)), (h0, .inr (0, [.ref h1, .int (nI n), .int (nI M)])), (h1, .inl (q 1, cn, .inl (fun j => nI (t j))))] ++ kz_st q r (va_up F st.length (kz_fl (fun j => if j < n ∧ a ≤ t j ∧ t j ≤ b - 1 then 2 else 0) (F st.length) (n + 1))) (List.range 41)) H locs := U
          refine lv_iinc (k := 3) (v := nI (st.length + 1)) hx hb kd_Mc_run_122 hl rfl (nI_add st.length 1) (by decide) rfl (fun ls hl => ?_)
          have hl : lv_has ls 7 [(3, .int (nI (st.length + 1))), (6, .int (nI b + (-1))), (5, .int (nI a)), (4, .int (nI j)), (0, .ref hm), (1, .ref hp), (2, .ref h0)] := hl
          refine lv_goto hx hb kd_Mc_run_125 rfl ?_
          refine lv_iinc (k := 3) (v := nI (j + 1)) hx hb kd_Mc_run_237 hl rfl (nI_add j 1) (by decide) rfl (fun ls hl => ?_)
          have hl : lv_has ls 7 [(4, .int (nI (j + 1))), (3, .int (nI (st.length + 1))), (6, .int (nI b + (-1))), (5, .int (nI a)), (0, .ref hm), (1, .ref hp), (2, .ref h0)] := hl
          refine lv_goto hx hb kd_Mc_run_240 rfl ?_
          exact ih5 (j + 1) (dm_rng a (b - 1) :: st) _ _ _ _ (by omega) (by omega) (by rw [hk53] at hok; exact hok) (by rw [hden, hk53]; rfl) (dm_rw_set (F' := va_up F st.length (kz_fl (fun j => if j < n ∧ a ≤ t j ∧ t j ≤ b - 1 then 2 else 0) (F st.length) (n + 1))) hrw (ro_fl (ro_rng_is (h := fun j => if j < n ∧ a ≤ t j ∧ t j ≤ b - 1 then 2 else 0) hM1 (fun i hi => by simp [hi]) (by simp))) va_up_eq' (fun i hi => by rw [va_up_ne' (by omega)])) (lv_sub hl [0, 1, 4, 5, 6] rfl) U
        · refine kz_top (y := nI 2) (by rw [hk53]) ?_
          refine lv_tableIn hx hb kd_Mc_run_53 (by decide) (by decide) rfl rfl ?_
          rcases st with _ | ⟨y, _ | ⟨x, st⟩⟩
          · exact absurd htk (by rw [hk53]; decide)
          · exact absurd htk (by rw [hk53]; show ¬ 2 ≤ 1; decide)
          have hl : lv_has ls 7 [(6, .int (nI b + (-1))), (5, .int (nI a)), (4, .int (nI j)), (3, .int (nI (st.length + 1 + 1))), (0, .ref hm), (1, .ref hp), (2, .ref h0)] := hl
          have hh41 : st.length + 1 + 1 < 41 := hh41
          refine lv_iinc (k := 3) (v := nI (st.length + 1)) hx hb kd_Mc_run_128 hl rfl (pk_m1 (st.length + 1)) (by decide) rfl (fun ls hl => ?_)
          have hl : lv_has ls 7 [(3, .int (nI (st.length + 1))), (6, .int (nI b + (-1))), (5, .int (nI a)), (4, .int (nI j)), (0, .ref hm), (1, .ref hp), (2, .ref h0)] := hl
          refine lv_aload_n hx hb kd_Mc_run_131 rfl (lv_at hl 6 rfl) ?_
          refine lv_aload_n hx hb kd_Mc_run_132 rfl (lv_at hl 4 rfl) ?_
          refine kg_Mc_11 X U 0 rfl rfl kd_Mc_run_133 ?_
          refine lv_iload_n hx hb kd_Mc_run_136 rfl (lv_at hl 0 rfl) ?_
          refine kz_ic X 1 kd_Mc_run_137 (by decide) ?_
          refine kz_isub X (by omega) kd_Mc_run_138 ?_
          refine kz_top (y := nI st.length) rfl ?_
          refine kz_aaldJ (k := st.length) X U 1 rfl (by omega) kd_Mc_run_139 ?_
          refine lv_aload_n hx hb kd_Mc_run_140 rfl (lv_at hl 4 rfl) ?_
          refine kg_Mc_11 X U 0 rfl rfl kd_Mc_run_141 ?_
          refine lv_iload_n hx hb kd_Mc_run_144 rfl (lv_at hl 0 rfl) ?_
          refine kz_aaldJ (k := st.length + 1) X U 1 rfl (by omega) kd_Mc_run_145 ?_
          have U := kz_tk1 (h := st.length) U (List.mem_range.mpr (by omega))
          have U : kz_U D q s A ([(hm, .inr (1, [.ref hs])), (hs, .inl (q 4, 41, .inr (.inr (.inr (.inr (kz_so r)))))), (hp, .inr (3, [.ref ak, .ref al, .ref ah, .int (nI P.length)])), (ak, .inl (q 0, 81, .inl fk)), (al, .inl (q 0, 81, .inl fl)), (ah, .inl (q 0, 81, .inl fh)), (h0, .inr (0, [.ref h1, .int (nI n), .int (nI M)])), (h1, .inl (q 1, cn, .inl (fun j => nI (t j)))), ((r st.length), .inl (q 0, 85, .inl (F st.length)))] ++ kz_st q r F ((List.range 41).erase st.length)) H locs := U
          have U := kz_tk1 (h := st.length + 1) U ((List.mem_erase_of_ne (by omega)).mpr (List.mem_range.mpr (by omega)))
          have U : kz_U D q s A ([(hm, .inr (1, [.ref hs])), (hs, .inl (q 4, 41, .inr (.inr (.inr (.inr (kz_so r)))))), (hp, .inr (3, [.ref ak, .ref al, .ref ah, .int (nI P.length)])), (ak, .inl (q 0, 81, .inl fk)), (al, .inl (q 0, 81, .inl fl)), (ah, .inl (q 0, 81, .inl fh)), (h0, .inr (0, [.ref h1, .int (nI n), .int (nI M)])), (h1, .inl (q 1, cn, .inl (fun j => nI (t j)))), ((r st.length), .inl (q 0, 85, .inl (F st.length))), ((r (st.length + 1)), .inl (q 0, 85, .inl (F (st.length + 1))))] ++ kz_st q r F (((List.range 41).erase st.length).erase (st.length + 1))) H locs := U
          refine kz_cSvT (av := [.ref h0, .ref ((r st.length)), .ref ((r (st.length + 1)))]) (rest := []) (wr := [(hm, .inr (1, [.ref hs])), (hs, .inl (q 4, 41, .inr (.inr (.inr (.inr (kz_so r)))))), (hp, .inr (3, [.ref ak, .ref al, .ref ah, .int (nI P.length)])), (ak, .inl (q 0, 81, .inl fk)), (al, .inl (q 0, 81, .inl fl)), (ah, .inl (q 0, 81, .inl fh)), (h1, .inl (q 1, cn, .inl (fun j => nI (t j))))] ++ kz_st q r F (((List.range 41).erase st.length).erase (st.length + 1))) X U hl.1 (cm_Mc_join l D q h0 h1 n M (r st.length) (r (st.length + 1)) (F st.length) (F (st.length + 1)) hn hM) (by decide) (by decide) ⟨by decide, by decide⟩ tb_347 tb_348 tb_10 tb_349 kq_Mc_join (kz_pmT (wc := [(h0, .inr (0, [.ref h1, .int (nI n), .int (nI M)])), ((r st.length), .inl (q 0, 85, .inl (F st.length))), ((r (st.length + 1)), .inl (q 0, 85, .inl (F (st.length + 1))))]) (wr := [(hm, .inr (1, [.ref hs])), (hs, .inl (q 4, 41, .inr (.inr (.inr (.inr (kz_so r)))))), (hp, .inr (3, [.ref ak, .ref al, .ref ah, .int (nI P.length)])), (ak, .inl (q 0, 81, .inl fk)), (al, .inl (q 0, 81, .inl fl)), (ah, .inl (q 0, 81, .inl fh)), (h1, .inl (q 1, cn, .inl (fun j => nI (t j))))]) [6, 8, 9, 0, 1, 2, 3, 4, 5, 7] (n := 10) (by decide) rfl rfl) rfl (Nat.le_of_ble_eq_true rfl) kd_Mc_run_146 (fun _ H locs _ U => ?_)
          have U : kz_U D q s A ([(hm, .inr (1, [.ref hs])), (hs, .inl (q 4, 41, .inr (.inr (.inr (.inr (kz_so r)))))), (hp, .inr (3, [.ref ak, .ref al, .ref ah, .int (nI P.length)])), (ak, .inl (q 0, 81, .inl fk)), (al, .inl (q 0, 81, .inl fl)), (ah, .inl (q 0, 81, .inl fh)), (h0, .inr (0, [.ref h1, .int (nI n), .int (nI M)])), (h1, .inl (q 1, cn, .inl (fun j => nI (t j)))), ((r st.length), .inl (q 0, 85, .inl (kz_fl (fun j => ro_lt n M (F st.length j) (F (st.length + 1)) j) (F st.length) (n + 1)))), ((r (st.length + 1)), .inl (q 0, 85, .inl (F (st.length + 1))))] ++ kz_st q r F (((List.range 41).erase st.length).erase (st.length + 1))) H locs := U.perm (kz_pmB (w1 := [(h0, .inr (0, [.ref h1, .int (nI n), .int (nI M)])), ((r st.length), .inl (q 0, 85, .inl (kz_fl (fun j => ro_lt n M (F st.length j) (F (st.length + 1)) j) (F st.length) (n + 1)))), ((r (st.length + 1)), .inl (q 0, 85, .inl (F (st.length + 1))))]) (wr := [(hm, .inr (1, [.ref hs])), (hs, .inl (q 4, 41, .inr (.inr (.inr (.inr (kz_so r)))))), (hp, .inr (3, [.ref ak, .ref al, .ref ah, .int (nI P.length)])), (ak, .inl (q 0, 81, .inl fk)), (al, .inl (q 0, 81, .inl fl)), (ah, .inl (q 0, 81, .inl fh)), (h1, .inl (q 1, cn, .inl (fun j => nI (t j))))]) [0, 1, 2, 3, 4, 5, 7, 6, 8, 9] (n := 10) (by decide) rfl rfl)
          have U := kz_bk1 (h := st.length + 1) (X := [(hm, .inr (1, [.ref hs])), (hs, .inl (q 4, 41, .inr (.inr (.inr (.inr (kz_so r)))))), (hp, .inr (3, [.ref ak, .ref al, .ref ah, .int (nI P.length)])), (ak, .inl (q 0, 81, .inl fk)), (al, .inl (q 0, 81, .inl fl)), (ah, .inl (q 0, 81, .inl fh)), (h0, .inr (0, [.ref h1, .int (nI n), .int (nI M)])), (h1, .inl (q 1, cn, .inl (fun j => nI (t j)))), ((r st.length), .inl (q 0, 85, .inl (kz_fl (fun j => ro_lt n M (F st.length j) (F (st.length + 1)) j) (F st.length) (n + 1))))]) U ((List.mem_erase_of_ne (by omega)).mpr (List.mem_range.mpr (by omega))) (List.nodup_range.erase _)
          have U := kz_bk1 (h := st.length) (X := [(hm, .inr (1, [.ref hs])), (hs, .inl (q 4, 41, .inr (.inr (.inr (.inr (kz_so r)))))), (hp, .inr (3, [.ref ak, .ref al, .ref ah, .int (nI P.length)])), (ak, .inl (q 0, 81, .inl fk)), (al, .inl (q 0, 81, .inl fl)), (ah, .inl (q 0, 81, .inl fh)), (h0, .inr (0, [.ref h1, .int (nI n), .int (nI M)])), (h1, .inl (q 1, cn, .inl (fun j => nI (t j))))]) U (List.mem_range.mpr (by omega)) List.nodup_range
          have U : kz_U D q s A ([(hm, .inr (1, [.ref hs])), (hs, .inl (q 4, 41, .inr (.inr (.inr (.inr (kz_so r)))))), (hp, .inr (3, [.ref ak, .ref al, .ref ah, .int (nI P.length)])), (ak, .inl (q 0, 81, .inl fk)), (al, .inl (q 0, 81, .inl fl)), (ah, .inl (q 0, 81, .inl fh)), (h0, .inr (0, [.ref h1, .int (nI n), .int (nI M)])), (h1, .inl (q 1, cn, .inl (fun j => nI (t j))))] ++ kz_st q r (va_up (va_up F (st.length + 1) (F (st.length + 1))) st.length (kz_fl (fun j => ro_lt n M (F st.length j) (F (st.length + 1)) j) (F st.length) (n + 1))) (List.range 41)) H locs := U
          refine lv_goto hx hb kd_Mc_run_149 rfl ?_
          refine lv_iinc (k := 3) (v := nI (j + 1)) hx hb kd_Mc_run_237 hl rfl (nI_add j 1) (by decide) rfl (fun ls hl => ?_)
          have hl : lv_has ls 7 [(4, .int (nI (j + 1))), (3, .int (nI (st.length + 1))), (6, .int (nI b + (-1))), (5, .int (nI a)), (0, .ref hm), (1, .ref hp), (2, .ref h0)] := hl
          refine lv_goto hx hb kd_Mc_run_240 rfl ?_
          exact ih5 (j + 1) (dm_cat x y :: st) _ _ _ _ (by omega) (by omega) (by rw [hk53] at hok; exact hok) (by rw [hden, hk53]; rfl) (dm_rw_set (F' := va_up (va_up F (st.length + 1) (F (st.length + 1))) st.length (kz_fl (fun j => ro_lt n M (F st.length j) (F (st.length + 1)) j) (F st.length) (n + 1))) hrw.2.2 (ro_fl (ro_join_is (h := fun j => ro_lt n M (F st.length j) (F (st.length + 1)) j) (by omega) hrw.2.1 hrw.1 (fun _ _ => rfl))) va_up_eq' (fun i hi => by rw [va_up_ne' (by omega), va_up_ne' (by omega)])) (lv_sub hl [0, 1, 4, 5, 6] rfl) U
        · refine kz_top (y := nI 3) (by rw [hk53]) ?_
          refine lv_tableIn hx hb kd_Mc_run_53 (by decide) (by decide) rfl rfl ?_
          rcases st with _ | ⟨y, _ | ⟨x, st⟩⟩
          · exact absurd htk (by rw [hk53]; decide)
          · exact absurd htk (by rw [hk53]; show ¬ 2 ≤ 1; decide)
          have hl : lv_has ls 7 [(6, .int (nI b + (-1))), (5, .int (nI a)), (4, .int (nI j)), (3, .int (nI (st.length + 1 + 1))), (0, .ref hm), (1, .ref hp), (2, .ref h0)] := hl
          have hh41 : st.length + 1 + 1 < 41 := hh41
          refine lv_iinc (k := 3) (v := nI (st.length + 1)) hx hb kd_Mc_run_152 hl rfl (pk_m1 (st.length + 1)) (by decide) rfl (fun ls hl => ?_)
          have hl : lv_has ls 7 [(3, .int (nI (st.length + 1))), (6, .int (nI b + (-1))), (5, .int (nI a)), (4, .int (nI j)), (0, .ref hm), (1, .ref hp), (2, .ref h0)] := hl
          refine lv_aload_n hx hb kd_Mc_run_155 rfl (lv_at hl 6 rfl) ?_
          refine lv_aload_n hx hb kd_Mc_run_156 rfl (lv_at hl 4 rfl) ?_
          refine kg_Mc_11 X U 0 rfl rfl kd_Mc_run_157 ?_
          refine lv_iload_n hx hb kd_Mc_run_160 rfl (lv_at hl 0 rfl) ?_
          refine kz_ic X 1 kd_Mc_run_161 (by decide) ?_
          refine kz_isub X (by omega) kd_Mc_run_162 ?_
          refine kz_top (y := nI st.length) rfl ?_
          refine kz_aaldJ (k := st.length) X U 1 rfl (by omega) kd_Mc_run_163 ?_
          refine lv_aload_n hx hb kd_Mc_run_164 rfl (lv_at hl 4 rfl) ?_
          refine kg_Mc_11 X U 0 rfl rfl kd_Mc_run_165 ?_
          refine lv_iload_n hx hb kd_Mc_run_168 rfl (lv_at hl 0 rfl) ?_
          refine kz_aaldJ (k := st.length + 1) X U 1 rfl (by omega) kd_Mc_run_169 ?_
          have U := kz_tk1 (h := st.length) U (List.mem_range.mpr (by omega))
          have U : kz_U D q s A ([(hm, .inr (1, [.ref hs])), (hs, .inl (q 4, 41, .inr (.inr (.inr (.inr (kz_so r)))))), (hp, .inr (3, [.ref ak, .ref al, .ref ah, .int (nI P.length)])), (ak, .inl (q 0, 81, .inl fk)), (al, .inl (q 0, 81, .inl fl)), (ah, .inl (q 0, 81, .inl fh)), (h0, .inr (0, [.ref h1, .int (nI n), .int (nI M)])), (h1, .inl (q 1, cn, .inl (fun j => nI (t j)))), ((r st.length), .inl (q 0, 85, .inl (F st.length)))] ++ kz_st q r F ((List.range 41).erase st.length)) H locs := U
          have U := kz_tk1 (h := st.length + 1) U ((List.mem_erase_of_ne (by omega)).mpr (List.mem_range.mpr (by omega)))
          have U : kz_U D q s A ([(hm, .inr (1, [.ref hs])), (hs, .inl (q 4, 41, .inr (.inr (.inr (.inr (kz_so r)))))), (hp, .inr (3, [.ref ak, .ref al, .ref ah, .int (nI P.length)])), (ak, .inl (q 0, 81, .inl fk)), (al, .inl (q 0, 81, .inl fl)), (ah, .inl (q 0, 81, .inl fh)), (h0, .inr (0, [.ref h1, .int (nI n), .int (nI M)])), (h1, .inl (q 1, cn, .inl (fun j => nI (t j)))), ((r st.length), .inl (q 0, 85, .inl (F st.length))), ((r (st.length + 1)), .inl (q 0, 85, .inl (F (st.length + 1))))] ++ kz_st q r F (((List.range 41).erase st.length).erase (st.length + 1))) H locs := U
          refine kz_cSvT (av := [.ref h0, .ref ((r st.length)), .ref ((r (st.length + 1)))]) (rest := []) (wr := [(hm, .inr (1, [.ref hs])), (hs, .inl (q 4, 41, .inr (.inr (.inr (.inr (kz_so r)))))), (hp, .inr (3, [.ref ak, .ref al, .ref ah, .int (nI P.length)])), (ak, .inl (q 0, 81, .inl fk)), (al, .inl (q 0, 81, .inl fl)), (ah, .inl (q 0, 81, .inl fh)), (h1, .inl (q 1, cn, .inl (fun j => nI (t j))))] ++ kz_st q r F (((List.range 41).erase st.length).erase (st.length + 1))) X U hl.1 (cm_Mc_unite l D q h0 h1 n M (r st.length) (r (st.length + 1)) (F st.length) (F (st.length + 1)) hn hM) (by decide) (by decide) ⟨by decide, by decide⟩ tb_364 tb_365 tb_10 tb_366 kq_Mc_unite (kz_pmT (wc := [(h0, .inr (0, [.ref h1, .int (nI n), .int (nI M)])), ((r st.length), .inl (q 0, 85, .inl (F st.length))), ((r (st.length + 1)), .inl (q 0, 85, .inl (F (st.length + 1))))]) (wr := [(hm, .inr (1, [.ref hs])), (hs, .inl (q 4, 41, .inr (.inr (.inr (.inr (kz_so r)))))), (hp, .inr (3, [.ref ak, .ref al, .ref ah, .int (nI P.length)])), (ak, .inl (q 0, 81, .inl fk)), (al, .inl (q 0, 81, .inl fl)), (ah, .inl (q 0, 81, .inl fh)), (h1, .inl (q 1, cn, .inl (fun j => nI (t j))))]) [6, 8, 9, 0, 1, 2, 3, 4, 5, 7] (n := 10) (by decide) rfl rfl) rfl (Nat.le_of_ble_eq_true rfl) kd_Mc_run_170 (fun _ H locs _ U => ?_)
          have U : kz_U D q s A ([(hm, .inr (1, [.ref hs])), (hs, .inl (q 4, 41, .inr (.inr (.inr (.inr (kz_so r)))))), (hp, .inr (3, [.ref ak, .ref al, .ref ah, .int (nI P.length)])), (ak, .inl (q 0, 81, .inl fk)), (al, .inl (q 0, 81, .inl fl)), (ah, .inl (q 0, 81, .inl fh)), (h0, .inr (0, [.ref h1, .int (nI n), .int (nI M)])), (h1, .inl (q 1, cn, .inl (fun j => nI (t j)))), ((r st.length), .inl (q 0, 85, .inl (kz_fl (fun j => F st.length j ||| F (st.length + 1) j) (F st.length) (n + 1)))), ((r (st.length + 1)), .inl (q 0, 85, .inl (F (st.length + 1))))] ++ kz_st q r F (((List.range 41).erase st.length).erase (st.length + 1))) H locs := U.perm (kz_pmB (w1 := [(h0, .inr (0, [.ref h1, .int (nI n), .int (nI M)])), ((r st.length), .inl (q 0, 85, .inl (kz_fl (fun j => F st.length j ||| F (st.length + 1) j) (F st.length) (n + 1)))), ((r (st.length + 1)), .inl (q 0, 85, .inl (F (st.length + 1))))]) (wr := [(hm, .inr (1, [.ref hs])), (hs, .inl (q 4, 41, .inr (.inr (.inr (.inr (kz_so r)))))), (hp, .inr (3, [.ref ak, .ref al, .ref ah, .int (nI P.length)])), (ak, .inl (q 0, 81, .inl fk)), (al, .inl (q 0, 81, .inl fl)), (ah, .inl (q 0, 81, .inl fh)), (h1, .inl (q 1, cn, .inl (fun j => nI (t j))))]) [0, 1, 2, 3, 4, 5, 7, 6, 8, 9] (n := 10) (by decide) rfl rfl)
          have U := kz_bk1 (h := st.length + 1) (X := [(hm, .inr (1, [.ref hs])), (hs, .inl (q 4, 41, .inr (.inr (.inr (.inr (kz_so r)))))), (hp, .inr (3, [.ref ak, .ref al, .ref ah, .int (nI P.length)])), (ak, .inl (q 0, 81, .inl fk)), (al, .inl (q 0, 81, .inl fl)), (ah, .inl (q 0, 81, .inl fh)), (h0, .inr (0, [.ref h1, .int (nI n), .int (nI M)])), (h1, .inl (q 1, cn, .inl (fun j => nI (t j)))), ((r st.length), .inl (q 0, 85, .inl (kz_fl (fun j => F st.length j ||| F (st.length + 1) j) (F st.length) (n + 1))))]) U ((List.mem_erase_of_ne (by omega)).mpr (List.mem_range.mpr (by omega))) (List.nodup_range.erase _)
          have U := kz_bk1 (h := st.length) (X := [(hm, .inr (1, [.ref hs])), (hs, .inl (q 4, 41, .inr (.inr (.inr (.inr (kz_so r)))))), (hp, .inr (3, [.ref ak, .ref al, .ref ah, .int (nI P.length)])), (ak, .inl (q 0, 81, .inl fk)), (al, .inl (q 0, 81, .inl fl)), (ah, .inl (q 0, 81, .inl fh)), (h0, .inr (0, [.ref h1, .int (nI n), .int (nI M)])), (h1, .inl (q 1, cn, .inl (fun j => nI (t j))))]) U (List.mem_range.mpr (by omega)) List.nodup_range
          have U : kz_U D q s A ([(hm, .inr (1, [.ref hs])), (hs, .inl (q 4, 41, .inr (.inr (.inr (.inr (kz_so r)))))), (hp, .inr (3, [.ref ak, .ref al, .ref ah, .int (nI P.length)])), (ak, .inl (q 0, 81, .inl fk)), (al, .inl (q 0, 81, .inl fl)), (ah, .inl (q 0, 81, .inl fh)), (h0, .inr (0, [.ref h1, .int (nI n), .int (nI M)])), (h1, .inl (q 1, cn, .inl (fun j => nI (t j))))] ++ kz_st q r (va_up (va_up F (st.length + 1) (F (st.length + 1))) st.length (kz_fl (fun j => F st.length j ||| F (st.length + 1) j) (F st.length) (n + 1))) (List.range 41)) H locs := U
          refine lv_goto hx hb kd_Mc_run_173 rfl ?_
          refine lv_iinc (k := 3) (v := nI (j + 1)) hx hb kd_Mc_run_237 hl rfl (nI_add j 1) (by decide) rfl (fun ls hl => ?_)
          have hl : lv_has ls 7 [(4, .int (nI (j + 1))), (3, .int (nI (st.length + 1))), (6, .int (nI b + (-1))), (5, .int (nI a)), (0, .ref hm), (1, .ref hp), (2, .ref h0)] := hl
          refine lv_goto hx hb kd_Mc_run_240 rfl ?_
          exact ih5 (j + 1) (dm_or x y :: st) _ _ _ _ (by omega) (by omega) (by rw [hk53] at hok; exact hok) (by rw [hden, hk53]; rfl) (dm_rw_set (F' := va_up (va_up F (st.length + 1) (F (st.length + 1))) st.length (kz_fl (fun j => F st.length j ||| F (st.length + 1) j) (F st.length) (n + 1))) hrw.2.2 (ro_fl (ro_or_is (h := fun j => F st.length j ||| F (st.length + 1) j) hrw.2.1 hrw.1 (fun _ _ => rfl))) va_up_eq' (fun i hi => by rw [va_up_ne' (by omega), va_up_ne' (by omega)])) (lv_sub hl [0, 1, 4, 5, 6] rfl) U
        · refine kz_top (y := nI 4) (by rw [hk53]) ?_
          refine lv_tableIn hx hb kd_Mc_run_53 (by decide) (by decide) rfl rfl ?_
          rcases st with _ | ⟨y, _ | ⟨x, st⟩⟩
          · exact absurd htk (by rw [hk53]; decide)
          · exact absurd htk (by rw [hk53]; show ¬ 2 ≤ 1; decide)
          have hl : lv_has ls 7 [(6, .int (nI b + (-1))), (5, .int (nI a)), (4, .int (nI j)), (3, .int (nI (st.length + 1 + 1))), (0, .ref hm), (1, .ref hp), (2, .ref h0)] := hl
          have hh41 : st.length + 1 + 1 < 41 := hh41
          refine lv_iinc (k := 3) (v := nI (st.length + 1)) hx hb kd_Mc_run_176 hl rfl (pk_m1 (st.length + 1)) (by decide) rfl (fun ls hl => ?_)
          have hl : lv_has ls 7 [(3, .int (nI (st.length + 1))), (6, .int (nI b + (-1))), (5, .int (nI a)), (4, .int (nI j)), (0, .ref hm), (1, .ref hp), (2, .ref h0)] := hl
          refine lv_aload_n hx hb kd_Mc_run_179 rfl (lv_at hl 6 rfl) ?_
          refine lv_aload_n hx hb kd_Mc_run_180 rfl (lv_at hl 4 rfl) ?_
          refine kg_Mc_11 X U 0 rfl rfl kd_Mc_run_181 ?_
          refine lv_iload_n hx hb kd_Mc_run_184 rfl (lv_at hl 0 rfl) ?_
          refine kz_ic X 1 kd_Mc_run_185 (by decide) ?_
          refine kz_isub X (by omega) kd_Mc_run_186 ?_
          refine kz_top (y := nI st.length) rfl ?_
          refine kz_aaldJ (k := st.length) X U 1 rfl (by omega) kd_Mc_run_187 ?_
          refine lv_aload_n hx hb kd_Mc_run_188 rfl (lv_at hl 4 rfl) ?_
          refine kg_Mc_11 X U 0 rfl rfl kd_Mc_run_189 ?_
          refine lv_iload_n hx hb kd_Mc_run_192 rfl (lv_at hl 0 rfl) ?_
          refine kz_aaldJ (k := st.length + 1) X U 1 rfl (by omega) kd_Mc_run_193 ?_
          have U := kz_tk1 (h := st.length) U (List.mem_range.mpr (by omega))
          have U : kz_U D q s A ([(hm, .inr (1, [.ref hs])), (hs, .inl (q 4, 41, .inr (.inr (.inr (.inr (kz_so r)))))), (hp, .inr (3, [.ref ak, .ref al, .ref ah, .int (nI P.length)])), (ak, .inl (q 0, 81, .inl fk)), (al, .inl (q 0, 81, .inl fl)), (ah, .inl (q 0, 81, .inl fh)), (h0, .inr (0, [.ref h1, .int (nI n), .int (nI M)])), (h1, .inl (q 1, cn, .inl (fun j => nI (t j)))), ((r st.length), .inl (q 0, 85, .inl (F st.length)))] ++ kz_st q r F ((List.range 41).erase st.length)) H locs := U
          have U := kz_tk1 (h := st.length + 1) U ((List.mem_erase_of_ne (by omega)).mpr (List.mem_range.mpr (by omega)))
          have U : kz_U D q s A ([(hm, .inr (1, [.ref hs])), (hs, .inl (q 4, 41, .inr (.inr (.inr (.inr (kz_so r)))))), (hp, .inr (3, [.ref ak, .ref al, .ref ah, .int (nI P.length)])), (ak, .inl (q 0, 81, .inl fk)), (al, .inl (q 0, 81, .inl fl)), (ah, .inl (q 0, 81, .inl fh)), (h0, .inr (0, [.ref h1, .int (nI n), .int (nI M)])), (h1, .inl (q 1, cn, .inl (fun j => nI (t j)))), ((r st.length), .inl (q 0, 85, .inl (F st.length))), ((r (st.length + 1)), .inl (q 0, 85, .inl (F (st.length + 1))))] ++ kz_st q r F (((List.range 41).erase st.length).erase (st.length + 1))) H locs := U
          refine kz_cSvT (av := [.ref h0, .ref ((r st.length)), .ref ((r (st.length + 1)))]) (rest := []) (wr := [(hm, .inr (1, [.ref hs])), (hs, .inl (q 4, 41, .inr (.inr (.inr (.inr (kz_so r)))))), (hp, .inr (3, [.ref ak, .ref al, .ref ah, .int (nI P.length)])), (ak, .inl (q 0, 81, .inl fk)), (al, .inl (q 0, 81, .inl fl)), (ah, .inl (q 0, 81, .inl fh)), (h1, .inl (q 1, cn, .inl (fun j => nI (t j))))] ++ kz_st q r F (((List.range 41).erase st.length).erase (st.length + 1))) X U hl.1 (cm_Mc_intersect l D q h0 h1 n M (r st.length) (r (st.length + 1)) (F st.length) (F (st.length + 1)) hn hM) (by decide) (by decide) ⟨by decide, by decide⟩ tb_367 tb_368 tb_10 tb_369 kq_Mc_intersect (kz_pmT (wc := [(h0, .inr (0, [.ref h1, .int (nI n), .int (nI M)])), ((r st.length), .inl (q 0, 85, .inl (F st.length))), ((r (st.length + 1)), .inl (q 0, 85, .inl (F (st.length + 1))))]) (wr := [(hm, .inr (1, [.ref hs])), (hs, .inl (q 4, 41, .inr (.inr (.inr (.inr (kz_so r)))))), (hp, .inr (3, [.ref ak, .ref al, .ref ah, .int (nI P.length)])), (ak, .inl (q 0, 81, .inl fk)), (al, .inl (q 0, 81, .inl fl)), (ah, .inl (q 0, 81, .inl fh)), (h1, .inl (q 1, cn, .inl (fun j => nI (t j))))]) [6, 8, 9, 0, 1, 2, 3, 4, 5, 7] (n := 10) (by decide) rfl rfl) rfl (Nat.le_of_ble_eq_true rfl) kd_Mc_run_194 (fun _ H locs _ U => ?_)
          have U : kz_U D q s A ([(hm, .inr (1, [.ref hs])), (hs, .inl (q 4, 41, .inr (.inr (.inr (.inr (kz_so r)))))), (hp, .inr (3, [.ref ak, .ref al, .ref ah, .int (nI P.length)])), (ak, .inl (q 0, 81, .inl fk)), (al, .inl (q 0, 81, .inl fl)), (ah, .inl (q 0, 81, .inl fh)), (h0, .inr (0, [.ref h1, .int (nI n), .int (nI M)])), (h1, .inl (q 1, cn, .inl (fun j => nI (t j)))), ((r st.length), .inl (q 0, 85, .inl (kz_fl (fun j => F st.length j &&& F (st.length + 1) j) (F st.length) (n + 1)))), ((r (st.length + 1)), .inl (q 0, 85, .inl (F (st.length + 1))))] ++ kz_st q r F (((List.range 41).erase st.length).erase (st.length + 1))) H locs := U.perm (kz_pmB (w1 := [(h0, .inr (0, [.ref h1, .int (nI n), .int (nI M)])), ((r st.length), .inl (q 0, 85, .inl (kz_fl (fun j => F st.length j &&& F (st.length + 1) j) (F st.length) (n + 1)))), ((r (st.length + 1)), .inl (q 0, 85, .inl (F (st.length + 1))))]) (wr := [(hm, .inr (1, [.ref hs])), (hs, .inl (q 4, 41, .inr (.inr (.inr (.inr (kz_so r)))))), (hp, .inr (3, [.ref ak, .ref al, .ref ah, .int (nI P.length)])), (ak, .inl (q 0, 81, .inl fk)), (al, .inl (q 0, 81, .inl fl)), (ah, .inl (q 0, 81, .inl fh)), (h1, .inl (q 1, cn, .inl (fun j => nI (t j))))]) [0, 1, 2, 3, 4, 5, 7, 6, 8, 9] (n := 10) (by decide) rfl rfl)
          have U := kz_bk1 (h := st.length + 1) (X := [(hm, .inr (1, [.ref hs])), (hs, .inl (q 4, 41, .inr (.inr (.inr (.inr (kz_so r)))))), (hp, .inr (3, [.ref ak, .ref al, .ref ah, .int (nI P.length)])), (ak, .inl (q 0, 81, .inl fk)), (al, .inl (q 0, 81, .inl fl)), (ah, .inl (q 0, 81, .inl fh)), (h0, .inr (0, [.ref h1, .int (nI n), .int (nI M)])), (h1, .inl (q 1, cn, .inl (fun j => nI (t j)))), ((r st.length), .inl (q 0, 85, .inl (kz_fl (fun j => F st.length j &&& F (st.length + 1) j) (F st.length) (n + 1))))]) U ((List.mem_erase_of_ne (by omega)).mpr (List.mem_range.mpr (by omega))) (List.nodup_range.erase _)
          have U := kz_bk1 (h := st.length) (X := [(hm, .inr (1, [.ref hs])), (hs, .inl (q 4, 41, .inr (.inr (.inr (.inr (kz_so r)))))), (hp, .inr (3, [.ref ak, .ref al, .ref ah, .int (nI P.length)])), (ak, .inl (q 0, 81, .inl fk)), (al, .inl (q 0, 81, .inl fl)), (ah, .inl (q 0, 81, .inl fh)), (h0, .inr (0, [.ref h1, .int (nI n), .int (nI M)])), (h1, .inl (q 1, cn, .inl (fun j => nI (t j))))]) U (List.mem_range.mpr (by omega)) List.nodup_range
          have U : kz_U D q s A ([(hm, .inr (1, [.ref hs])), (hs, .inl (q 4, 41, .inr (.inr (.inr (.inr (kz_so r)))))), (hp, .inr (3, [.ref ak, .ref al, .ref ah, .int (nI P.length)])), (ak, .inl (q 0, 81, .inl fk)), (al, .inl (q 0, 81, .inl fl)), (ah, .inl (q 0, 81, .inl fh)), (h0, .inr (0, [.ref h1, .int (nI n), .int (nI M)])), (h1, .inl (q 1, cn, .inl (fun j => nI (t j))))] ++ kz_st q r (va_up (va_up F (st.length + 1) (F (st.length + 1))) st.length (kz_fl (fun j => F st.length j &&& F (st.length + 1) j) (F st.length) (n + 1))) (List.range 41)) H locs := U
          refine lv_goto hx hb kd_Mc_run_197 rfl ?_
          refine lv_iinc (k := 3) (v := nI (j + 1)) hx hb kd_Mc_run_237 hl rfl (nI_add j 1) (by decide) rfl (fun ls hl => ?_)
          have hl : lv_has ls 7 [(4, .int (nI (j + 1))), (3, .int (nI (st.length + 1))), (6, .int (nI b + (-1))), (5, .int (nI a)), (0, .ref hm), (1, .ref hp), (2, .ref h0)] := hl
          refine lv_goto hx hb kd_Mc_run_240 rfl ?_
          exact ih5 (j + 1) (dm_and x y :: st) _ _ _ _ (by omega) (by omega) (by rw [hk53] at hok; exact hok) (by rw [hden, hk53]; rfl) (dm_rw_set (F' := va_up (va_up F (st.length + 1) (F (st.length + 1))) st.length (kz_fl (fun j => F st.length j &&& F (st.length + 1) j) (F st.length) (n + 1))) hrw.2.2 (ro_fl (ro_and_is (h := fun j => F st.length j &&& F (st.length + 1) j) hrw.2.1 hrw.1 (fun _ _ => rfl))) va_up_eq' (fun i hi => by rw [va_up_ne' (by omega), va_up_ne' (by omega)])) (lv_sub hl [0, 1, 4, 5, 6] rfl) U
        · refine kz_top (y := nI 5) (by rw [hk53]) ?_
          refine lv_tableIn hx hb kd_Mc_run_53 (by decide) (by decide) rfl rfl ?_
          rcases st with _ | ⟨y, st⟩
          · exact absurd htk (by rw [hk53]; decide)
          have hl : lv_has ls 7 [(6, .int (nI b + (-1))), (5, .int (nI a)), (4, .int (nI j)), (3, .int (nI (st.length + 1))), (0, .ref hm), (1, .ref hp), (2, .ref h0)] := hl
          have hh41 : st.length + 1 < 41 := hh41
          refine lv_aload_n hx hb kd_Mc_run_200 rfl (lv_at hl 6 rfl) ?_
          refine lv_aload_n hx hb kd_Mc_run_201 rfl (lv_at hl 4 rfl) ?_
          refine kg_Mc_11 X U 0 rfl rfl kd_Mc_run_202 ?_
          refine lv_iload_n hx hb kd_Mc_run_205 rfl (lv_at hl 3 rfl) ?_
          refine kz_ic X 1 kd_Mc_run_206 (by decide) ?_
          refine kz_isub X (by omega) kd_Mc_run_207 ?_
          refine kz_top (y := nI st.length) rfl ?_
          refine kz_aaldJ (k := st.length) X U 1 rfl (by omega) kd_Mc_run_208 ?_
          have U := kz_tk1 (h := st.length) U (List.mem_range.mpr (by omega))
          have U : kz_U D q s A ([(hm, .inr (1, [.ref hs])), (hs, .inl (q 4, 41, .inr (.inr (.inr (.inr (kz_so r)))))), (hp, .inr (3, [.ref ak, .ref al, .ref ah, .int (nI P.length)])), (ak, .inl (q 0, 81, .inl fk)), (al, .inl (q 0, 81, .inl fl)), (ah, .inl (q 0, 81, .inl fh)), (h0, .inr (0, [.ref h1, .int (nI n), .int (nI M)])), (h1, .inl (q 1, cn, .inl (fun j => nI (t j)))), ((r st.length), .inl (q 0, 85, .inl (F st.length)))] ++ kz_st q r F ((List.range 41).erase st.length)) H locs := U
          refine kz_cSvT (av := [.ref h0, .ref ((r st.length))]) (rest := []) (wr := [(hm, .inr (1, [.ref hs])), (hs, .inl (q 4, 41, .inr (.inr (.inr (.inr (kz_so r)))))), (hp, .inr (3, [.ref ak, .ref al, .ref ah, .int (nI P.length)])), (ak, .inl (q 0, 81, .inl fk)), (al, .inl (q 0, 81, .inl fl)), (ah, .inl (q 0, 81, .inl fh)), (h1, .inl (q 1, cn, .inl (fun j => nI (t j))))] ++ kz_st q r F ((List.range 41).erase st.length)) X U hl.1 (cm_Mc_complement l D q h0 h1 n M (r st.length) (F st.length) hn hM) (by decide) (by decide) ⟨by decide, by decide⟩ tb_370 tb_371 tb_10 tb_372 kq_Mc_complement (kz_pmT (wc := [(h0, .inr (0, [.ref h1, .int (nI n), .int (nI M)])), ((r st.length), .inl (q 0, 85, .inl (F st.length)))]) (wr := [(hm, .inr (1, [.ref hs])), (hs, .inl (q 4, 41, .inr (.inr (.inr (.inr (kz_so r)))))), (hp, .inr (3, [.ref ak, .ref al, .ref ah, .int (nI P.length)])), (ak, .inl (q 0, 81, .inl fk)), (al, .inl (q 0, 81, .inl fl)), (ah, .inl (q 0, 81, .inl fh)), (h1, .inl (q 1, cn, .inl (fun j => nI (t j))))]) [6, 8, 0, 1, 2, 3, 4, 5, 7] (n := 9) (by decide) rfl rfl) rfl (Nat.le_of_ble_eq_true rfl) kd_Mc_run_209 (fun _ H locs _ U => ?_)
          have U : kz_U D q s A ([(hm, .inr (1, [.ref hs])), (hs, .inl (q 4, 41, .inr (.inr (.inr (.inr (kz_so r)))))), (hp, .inr (3, [.ref ak, .ref al, .ref ah, .int (nI P.length)])), (ak, .inl (q 0, 81, .inl fk)), (al, .inl (q 0, 81, .inl fl)), (ah, .inl (q 0, 81, .inl fh)), (h0, .inr (0, [.ref h1, .int (nI n), .int (nI M)])), (h1, .inl (q 1, cn, .inl (fun j => nI (t j)))), ((r st.length), .inl (q 0, 85, .inl (kz_fl (fun j => (F st.length j ^^^ (-1)) &&& ro_mask (min M (n - j))) (F st.length) (n + 1))))] ++ kz_st q r F ((List.range 41).erase st.length)) H locs := U.perm (kz_pmB (w1 := [(h0, .inr (0, [.ref h1, .int (nI n), .int (nI M)])), ((r st.length), .inl (q 0, 85, .inl (kz_fl (fun j => (F st.length j ^^^ (-1)) &&& ro_mask (min M (n - j))) (F st.length) (n + 1))))]) (wr := [(hm, .inr (1, [.ref hs])), (hs, .inl (q 4, 41, .inr (.inr (.inr (.inr (kz_so r)))))), (hp, .inr (3, [.ref ak, .ref al, .ref ah, .int (nI P.length)])), (ak, .inl (q 0, 81, .inl fk)), (al, .inl (q 0, 81, .inl fl)), (ah, .inl (q 0, 81, .inl fh)), (h1, .inl (q 1, cn, .inl (fun j => nI (t j))))]) [0, 1, 2, 3, 4, 5, 7, 6, 8] (n := 9) (by decide) rfl rfl)
          have U := kz_bk1 (h := st.length) (X := [(hm, .inr (1, [.ref hs])), (hs, .inl (q 4, 41, .inr (.inr (.inr (.inr (kz_so r)))))), (hp, .inr (3, [.ref ak, .ref al, .ref ah, .int (nI P.length)])), (ak, .inl (q 0, 81, .inl fk)), (al, .inl (q 0, 81, .inl fl)), (ah, .inl (q 0, 81, .inl fh)), (h0, .inr (0, [.ref h1, .int (nI n), .int (nI M)])), (h1, .inl (q 1, cn, .inl (fun j => nI (t j))))]) U (List.mem_range.mpr (by omega)) List.nodup_range
          have U : kz_U D q s A ([(hm, .inr (1, [.ref hs])), (hs, .inl (q 4, 41, .inr (.inr (.inr (.inr (kz_so r)))))), (hp, .inr (3, [.ref ak, .ref al, .ref ah, .int (nI P.length)])), (ak, .inl (q 0, 81, .inl fk)), (al, .inl (q 0, 81, .inl fl)), (ah, .inl (q 0, 81, .inl fh)), (h0, .inr (0, [.ref h1, .int (nI n), .int (nI M)])), (h1, .inl (q 1, cn, .inl (fun j => nI (t j))))] ++ kz_st q r (va_up F st.length (kz_fl (fun j => (F st.length j ^^^ (-1)) &&& ro_mask (min M (n - j))) (F st.length) (n + 1))) (List.range 41)) H locs := U
          refine lv_goto hx hb kd_Mc_run_212 rfl ?_
          refine lv_iinc (k := 2) (v := nI (j + 1)) hx hb kd_Mc_run_237 hl rfl (nI_add j 1) (by decide) rfl (fun ls hl => ?_)
          have hl : lv_has ls 7 [(4, .int (nI (j + 1))), (6, .int (nI b + (-1))), (5, .int (nI a)), (3, .int (nI (st.length + 1))), (0, .ref hm), (1, .ref hp), (2, .ref h0)] := hl
          refine lv_goto hx hb kd_Mc_run_240 rfl ?_
          exact ih5 (j + 1) (dm_not y :: st) _ _ _ _ (by omega) (by omega) (by rw [hk53] at hok; exact hok) (by rw [hden, hk53]; rfl) (dm_rw_set (F' := va_up F st.length (kz_fl (fun j => (F st.length j ^^^ (-1)) &&& ro_mask (min M (n - j))) (F st.length) (n + 1))) hrw.2 (ro_fl (ro_not_is (h := fun j => (F st.length j ^^^ (-1)) &&& ro_mask (min M (n - j))) (by omega) hrw.1 (fun _ _ => rfl))) va_up_eq' (fun i hi => by rw [va_up_ne' (by omega)])) (lv_sub hl [0, 3, 4, 5, 6] rfl) U
        · refine kz_top (y := nI 6) (by rw [hk53]) ?_
          refine lv_tableOut hx hb kd_Mc_run_53 (by decide) rfl ?_
          rcases st with _ | ⟨y, st⟩
          · exact absurd htk (by rw [hk53]; decide)
          have hl : lv_has ls 7 [(6, .int (nI b + (-1))), (5, .int (nI a)), (4, .int (nI j)), (3, .int (nI (st.length + 1))), (0, .ref hm), (1, .ref hp), (2, .ref h0)] := hl
          have hh41 : st.length + 1 < 41 := hh41
          refine lv_aload_n hx hb kd_Mc_run_215 rfl (lv_at hl 6 rfl) ?_
          refine lv_aload_n hx hb kd_Mc_run_216 rfl (lv_at hl 4 rfl) ?_
          refine kg_Mc_11 X U 0 rfl rfl kd_Mc_run_217 ?_
          refine lv_iload_n hx hb kd_Mc_run_220 rfl (lv_at hl 3 rfl) ?_
          refine kz_ic X 1 kd_Mc_run_221 (by decide) ?_
          refine kz_isub X (by omega) kd_Mc_run_222 ?_
          refine kz_top (y := nI st.length) rfl ?_
          refine kz_aaldJ (k := st.length) X U 1 rfl (by omega) kd_Mc_run_223 ?_
          refine lv_aload_n hx hb kd_Mc_run_224 rfl (lv_at hl 4 rfl) ?_
          refine kg_Mc_11 X U 0 rfl rfl kd_Mc_run_225 ?_
          refine lv_iload_n hx hb kd_Mc_run_228 rfl (lv_at hl 3 rfl) ?_
          refine kz_aaldJ (k := st.length + 1) X U 1 rfl (by omega) kd_Mc_run_229 ?_
          refine lv_iload hx hb kd_Mc_run_230 (lv_at hl 1 rfl) ?_
          refine lv_iload hx hb kd_Mc_run_232 (lv_at hl 0 rfl) ?_
          have U := kz_tk1 (h := st.length) U (List.mem_range.mpr (by omega))
          have U : kz_U D q s A ([(hm, .inr (1, [.ref hs])), (hs, .inl (q 4, 41, .inr (.inr (.inr (.inr (kz_so r)))))), (hp, .inr (3, [.ref ak, .ref al, .ref ah, .int (nI P.length)])), (ak, .inl (q 0, 81, .inl fk)), (al, .inl (q 0, 81, .inl fl)), (ah, .inl (q 0, 81, .inl fh)), (h0, .inr (0, [.ref h1, .int (nI n), .int (nI M)])), (h1, .inl (q 1, cn, .inl (fun j => nI (t j)))), ((r st.length), .inl (q 0, 85, .inl (F st.length)))] ++ kz_st q r F ((List.range 41).erase st.length)) H locs := U
          have U := kz_tk1 (h := st.length + 1) U ((List.mem_erase_of_ne (by omega)).mpr (List.mem_range.mpr (by omega)))
          have U : kz_U D q s A ([(hm, .inr (1, [.ref hs])), (hs, .inl (q 4, 41, .inr (.inr (.inr (.inr (kz_so r)))))), (hp, .inr (3, [.ref ak, .ref al, .ref ah, .int (nI P.length)])), (ak, .inl (q 0, 81, .inl fk)), (al, .inl (q 0, 81, .inl fl)), (ah, .inl (q 0, 81, .inl fh)), (h0, .inr (0, [.ref h1, .int (nI n), .int (nI M)])), (h1, .inl (q 1, cn, .inl (fun j => nI (t j)))), ((r st.length), .inl (q 0, 85, .inl (F st.length))), ((r (st.length + 1)), .inl (q 0, 85, .inl (F (st.length + 1))))] ++ kz_st q r F (((List.range 41).erase st.length).erase (st.length + 1))) H locs := U
          refine kz_cSvT (av := [.ref h0, .ref ((r st.length)), .ref ((r (st.length + 1))), .int (nI a), .int (nI b + (-1))]) (rest := []) (wr := [(hm, .inr (1, [.ref hs])), (hs, .inl (q 4, 41, .inr (.inr (.inr (.inr (kz_so r)))))), (hp, .inr (3, [.ref ak, .ref al, .ref ah, .int (nI P.length)])), (ak, .inl (q 0, 81, .inl fk)), (al, .inl (q 0, 81, .inl fl)), (ah, .inl (q 0, 81, .inl fh)), (h1, .inl (q 1, cn, .inl (fun j => nI (t j))))] ++ kz_st q r F (((List.range 41).erase st.length).erase (st.length + 1))) X U hl.1 (cm_Mc_repeat l D q h0 h1 n M (r st.length) (r (st.length + 1)) a b (F st.length) (F (st.length + 1)) t (hrep hk53).1 (hrep hk53).2.1 (hrep hk53).2.2 hn hM) (by decide) (by decide) ⟨by decide, by decide⟩ tb_373 tb_374 tb_10 tb_375 kq_Mc_repeat (kz_pmT (wc := [(h0, .inr (0, [.ref h1, .int (nI n), .int (nI M)])), ((r st.length), .inl (q 0, 85, .inl (F st.length))), ((r (st.length + 1)), .inl (q 0, 85, .inl (F (st.length + 1))))]) (wr := [(hm, .inr (1, [.ref hs])), (hs, .inl (q 4, 41, .inr (.inr (.inr (.inr (kz_so r)))))), (hp, .inr (3, [.ref ak, .ref al, .ref ah, .int (nI P.length)])), (ak, .inl (q 0, 81, .inl fk)), (al, .inl (q 0, 81, .inl fl)), (ah, .inl (q 0, 81, .inl fh)), (h1, .inl (q 1, cn, .inl (fun j => nI (t j))))]) [6, 8, 9, 0, 1, 2, 3, 4, 5, 7] (n := 10) (by decide) rfl rfl) rfl (Nat.le_of_ble_eq_true rfl) kd_Mc_run_234 (fun ug H locs hug U => ?_)
          have U : kz_U D q s A ([(hm, .inr (1, [.ref hs])), (hs, .inl (q 4, 41, .inr (.inr (.inr (.inr (kz_so r)))))), (hp, .inr (3, [.ref ak, .ref al, .ref ah, .int (nI P.length)])), (ak, .inl (q 0, 81, .inl fk)), (al, .inl (q 0, 81, .inl fl)), (ah, .inl (q 0, 81, .inl fh)), (h0, .inr (0, [.ref h1, .int (nI n), .int (nI M)])), (h1, .inl (q 1, cn, .inl (fun j => nI (t j)))), ((r st.length), .inl (q 0, 85, .inl ug.1)), ((r (st.length + 1)), .inl (q 0, 85, .inl ug.2))] ++ kz_st q r F (((List.range 41).erase st.length).erase (st.length + 1))) H locs := U.perm (kz_pmB (w1 := [(h0, .inr (0, [.ref h1, .int (nI n), .int (nI M)])), ((r st.length), .inl (q 0, 85, .inl ug.1)), ((r (st.length + 1)), .inl (q 0, 85, .inl ug.2))]) (wr := [(hm, .inr (1, [.ref hs])), (hs, .inl (q 4, 41, .inr (.inr (.inr (.inr (kz_so r)))))), (hp, .inr (3, [.ref ak, .ref al, .ref ah, .int (nI P.length)])), (ak, .inl (q 0, 81, .inl fk)), (al, .inl (q 0, 81, .inl fl)), (ah, .inl (q 0, 81, .inl fh)), (h1, .inl (q 1, cn, .inl (fun j => nI (t j))))]) [0, 1, 2, 3, 4, 5, 7, 6, 8, 9] (n := 10) (by decide) rfl rfl)
          have U := kz_bk1 (h := st.length + 1) (X := [(hm, .inr (1, [.ref hs])), (hs, .inl (q 4, 41, .inr (.inr (.inr (.inr (kz_so r)))))), (hp, .inr (3, [.ref ak, .ref al, .ref ah, .int (nI P.length)])), (ak, .inl (q 0, 81, .inl fk)), (al, .inl (q 0, 81, .inl fl)), (ah, .inl (q 0, 81, .inl fh)), (h0, .inr (0, [.ref h1, .int (nI n), .int (nI M)])), (h1, .inl (q 1, cn, .inl (fun j => nI (t j)))), ((r st.length), .inl (q 0, 85, .inl ug.1))]) U ((List.mem_erase_of_ne (by omega)).mpr (List.mem_range.mpr (by omega))) (List.nodup_range.erase _)
          have U := kz_bk1 (h := st.length) (X := [(hm, .inr (1, [.ref hs])), (hs, .inl (q 4, 41, .inr (.inr (.inr (.inr (kz_so r)))))), (hp, .inr (3, [.ref ak, .ref al, .ref ah, .int (nI P.length)])), (ak, .inl (q 0, 81, .inl fk)), (al, .inl (q 0, 81, .inl fl)), (ah, .inl (q 0, 81, .inl fh)), (h0, .inr (0, [.ref h1, .int (nI n), .int (nI M)])), (h1, .inl (q 1, cn, .inl (fun j => nI (t j))))]) U (List.mem_range.mpr (by omega)) List.nodup_range
          have U : kz_U D q s A ([(hm, .inr (1, [.ref hs])), (hs, .inl (q 4, 41, .inr (.inr (.inr (.inr (kz_so r)))))), (hp, .inr (3, [.ref ak, .ref al, .ref ah, .int (nI P.length)])), (ak, .inl (q 0, 81, .inl fk)), (al, .inl (q 0, 81, .inl fl)), (ah, .inl (q 0, 81, .inl fh)), (h0, .inr (0, [.ref h1, .int (nI n), .int (nI M)])), (h1, .inl (q 1, cn, .inl (fun j => nI (t j))))] ++ kz_st q r (va_up (va_up F (st.length + 1) ug.2) st.length ug.1) (List.range 41)) H locs := U
          refine lv_iinc (k := 2) (v := nI (j + 1)) hx hb kd_Mc_run_237 hl rfl (nI_add j 1) (by decide) rfl (fun ls hl => ?_)
          have hl : lv_has ls 7 [(4, .int (nI (j + 1))), (6, .int (nI b + (-1))), (5, .int (nI a)), (3, .int (nI (st.length + 1))), (0, .ref hm), (1, .ref hp), (2, .ref h0)] := hl
          refine lv_goto hx hb kd_Mc_run_240 rfl ?_
          exact ih5 (j + 1) (dm_rep y a b :: st) _ _ _ _ (by omega) (by omega) (by rw [hk53] at hok; exact hok) (by rw [hden, hk53]; rfl) (dm_rw_set (F' := va_up (va_up F (st.length + 1) ug.2) st.length ug.1) hrw.2 (hug y hrw.1) va_up_eq' (fun i hi => by rw [va_up_ne' (by omega), va_up_ne' (by omega)])) (lv_sub hl [0, 3, 4, 5, 6] rfl) U
  exact loop5 _ 0 ([]) F0_ _ _ _ (Nat.lt_succ_self _) (by omega) hokP rfl trivial (lv_sub hl [0, 1, 2, 3, 4] rfl) U
