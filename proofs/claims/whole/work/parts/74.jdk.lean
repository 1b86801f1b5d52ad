/-! the JDK: the text constant into an array of characters -/
abbrev kb_Sa : ByteArray := prog_10_method_129_code
abbrev ky_Sa : MethodName := ⟨"java/lang/String", "toCharArray", "()[C"⟩
theorem kd_Sa_0 : decode kb_Sa 0 = .ok (.aload_n 0, 1) := by decide +kernel
theorem kd_Sa_1 : decode kb_Sa 1 = .ok (.invokevirtual 492, 3) := by decide +kernel
theorem kd_Sa_4 : decode kb_Sa 4 = .ok (.ifCond .eq 13, 3) := by decide +kernel
theorem kd_Sa_7 : decode kb_Sa 7 = .ok (.aload_n 0, 1) := by decide +kernel
theorem kd_Sa_8 : decode kb_Sa 8 = .ok (.getfield 9, 3) := by decide +kernel
theorem kd_Sa_11 : decode kb_Sa 11 = .ok (.invokestatic 299, 3) := by decide +kernel
theorem kd_Sa_14 : decode kb_Sa 14 = .ok (.goto 10, 3) := by decide +kernel
theorem kd_Sa_17 : decode kb_Sa 17 = .ok (.aload_n 0, 1) := by decide +kernel
theorem kd_Sa_18 : decode kb_Sa 18 = .ok (.getfield 9, 3) := by decide +kernel
theorem kd_Sa_21 : decode kb_Sa 21 = .ok (.invokestatic 303, 3) := by decide +kernel
theorem kd_Sa_24 : decode kb_Sa 24 = .ok (.areturn, 1) := by decide +kernel
abbrev kb_Sl : ByteArray := prog_10_method_154_code
abbrev ky_Sl : MethodName := ⟨"java/lang/String", "isLatin1", "()Z"⟩
theorem kd_Sl_0 : decode kb_Sl 0 = .ok (.getstatic 38, 3) := by decide +kernel
theorem kd_Sl_3 : decode kb_Sl 3 = .ok (.ifCond .eq 14, 3) := by decide +kernel
theorem kd_Sl_6 : decode kb_Sl 6 = .ok (.aload_n 0, 1) := by decide +kernel
theorem kd_Sl_7 : decode kb_Sl 7 = .ok (.getfield 15, 3) := by decide +kernel
theorem kd_Sl_10 : decode kb_Sl 10 = .ok (.ifCond .ne 7, 3) := by decide +kernel
theorem kd_Sl_13 : decode kb_Sl 13 = .ok (.iconst 1, 1) := by decide +kernel
theorem kd_Sl_14 : decode kb_Sl 14 = .ok (.goto 4, 3) := by decide +kernel
theorem kd_Sl_17 : decode kb_Sl 17 = .ok (.iconst 0, 1) := by decide +kernel
theorem kd_Sl_18 : decode kb_Sl 18 = .ok (.ireturn, 1) := by decide +kernel
abbrev kb_Sc : ByteArray := prog_11_method_9_code
abbrev ky_Sc : MethodName := ⟨"java/lang/StringLatin1", "toChars", "([B)[C"⟩
theorem kd_Sc_0 : decode kb_Sc 0 = .ok (.aload_n 0, 1) := by decide +kernel
theorem kd_Sc_1 : decode kb_Sc 1 = .ok (.arraylength, 1) := by decide +kernel
theorem kd_Sc_2 : decode kb_Sc 2 = .ok (.newarray .char, 2) := by decide +kernel
theorem kd_Sc_4 : decode kb_Sc 4 = .ok (.astore_n 1, 1) := by decide +kernel
theorem kd_Sc_5 : decode kb_Sc 5 = .ok (.aload_n 0, 1) := by decide +kernel
theorem kd_Sc_6 : decode kb_Sc 6 = .ok (.iconst 0, 1) := by decide +kernel
theorem kd_Sc_7 : decode kb_Sc 7 = .ok (.aload_n 1, 1) := by decide +kernel
theorem kd_Sc_8 : decode kb_Sc 8 = .ok (.iconst 0, 1) := by decide +kernel
theorem kd_Sc_9 : decode kb_Sc 9 = .ok (.aload_n 0, 1) := by decide +kernel
theorem kd_Sc_10 : decode kb_Sc 10 = .ok (.arraylength, 1) := by decide +kernel
theorem kd_Sc_11 : decode kb_Sc 11 = .ok (.invokestatic 13, 3) := by decide +kernel
theorem kd_Sc_14 : decode kb_Sc 14 = .ok (.aload_n 1, 1) := by decide +kernel
theorem kd_Sc_15 : decode kb_Sc 15 = .ok (.areturn, 1) := by decide +kernel
abbrev kb_Si : ByteArray := prog_11_method_49_code
abbrev ky_Si : MethodName := ⟨"java/lang/StringLatin1", "inflate", "([BI[CII)V"⟩
theorem kd_Si_0 : decode kb_Si 0 = .ok (.iconst 0, 1) := by decide +kernel
theorem kd_Si_1 : decode kb_Si 1 = .ok (.istore 5, 2) := by decide +kernel
theorem kd_Si_3 : decode kb_Si 3 = .ok (.iload 5, 2) := by decide +kernel
theorem kd_Si_5 : decode kb_Si 5 = .ok (.iload 4, 2) := by decide +kernel
theorem kd_Si_7 : decode kb_Si 7 = .ok (.if_icmp .ge 26, 3) := by decide +kernel
theorem kd_Si_10 : decode kb_Si 10 = .ok (.aload_n 2, 1) := by decide +kernel
theorem kd_Si_11 : decode kb_Si 11 = .ok (.iload_n 3, 1) := by decide +kernel
theorem kd_Si_12 : decode kb_Si 12 = .ok (.iinc 3 1, 3) := by decide +kernel
theorem kd_Si_15 : decode kb_Si 15 = .ok (.aload_n 0, 1) := by decide +kernel
theorem kd_Si_16 : decode kb_Si 16 = .ok (.iload_n 1, 1) := by decide +kernel
theorem kd_Si_17 : decode kb_Si 17 = .ok (.iinc 1 1, 3) := by decide +kernel
theorem kd_Si_20 : decode kb_Si 20 = .ok (.baload, 1) := by decide +kernel
theorem kd_Si_21 : decode kb_Si 21 = .ok (.sipush 255, 3) := by decide +kernel
theorem kd_Si_24 : decode kb_Si 24 = .ok (.iand, 1) := by decide +kernel
theorem kd_Si_25 : decode kb_Si 25 = .ok (.i2c, 1) := by decide +kernel
theorem kd_Si_26 : decode kb_Si 26 = .ok (.castore, 1) := by decide +kernel
theorem kd_Si_27 : decode kb_Si 27 = .ok (.iinc 5 1, 3) := by decide +kernel
theorem kd_Si_30 : decode kb_Si 30 = .ok (.goto (-27), 3) := by decide +kernel
theorem kd_Si_33 : decode kb_Si 33 = .ok (.return_, 1) := by decide +kernel

theorem kz_goZ {l : Launch} {y : MethodName} {cc : ByteArray} {ret : Option FieldType} {n d mc ms : Nat} {D : va_G} {q : Nat → ClassId} {Z : State → Prop} {av : List Value} {wc : va_W} {sz : Nat} {Qc : Array Value → State → Outcome → State → Prop} (hy : plainName y.cls = true) (hlen : (lg_sl av).length ≤ n)
    (body : ∀ (p : Program) (e : Env) (s : State) (m : MethodId) (below : List Frame) (meth : Method) (c : Code) (ls : Array Slot) (args : Array Value) (A : Nat → Prop) (Q : State → Prop) (H : Heap) (locs : List Loc), Q = MQ below Qc args s mc ms A → A = va_A wc sz → H = s.heap → s.heap.size = sz → kz_C p m c cc n y.cls s args meth ret → Z s → kz_U D q s A wc H locs → lv_has ls n (lv_args 0 av) → W p l e (kz_rmN d mc ms) s m args below meth c H locs 0 0 Q (F0 m 0 ls [])) :
    Met l y (.code y cc n ret :: kw_T) (kz_rmN d mc ms) (kz_PreZ D q av sz wc Z) Qc mc ms (va_A wc sz) := by
  refine Met.ofW (cc := cc) (maxL := n) (ret := ret) hy rfl ?_
  intro p e s m args below meth c s₁ B hml hv
  obtain ⟨rfl, hsz, hP, hK, hD0, hZ⟩ := hv
  have hts := atoms_spec (ws := .code y cc n ret :: kw_T) B.pre
  have hown : s.vm.findClass y.cls = some m.cls := findClass_of_methodNamed B.named
  have hl := lv_entry av (n := n) hlen
  rw [lg_entry_eq]
  exact body p e s m below meth c _ _ _ _ _ _ rfl rfl rfl hsz ⟨B.exec, B.bytes, hml, hown, fun w h => hts w (List.mem_cons_of_mem _ h), B.returns, B.notSynchronized⟩ hZ ⟨hK, hP, hD0.self, va_S.rf, fun x h => Or.inr (by omega)⟩ hl
/-- the constant's bytes, its object, the switch for small texts; all lie below z0 -/
def kz_SX (z0 tS tV : Nat) (U : State) (H : Heap) : Prop := va_O "java/lang/String" tS (fun x => z0 ≤ x) U H ∧ va_OF "java/lang/String" "coder" "B" (.int 0) tS (fun x => z0 ≤ x) U H ∧ va_OF "java/lang/String" "value" "[B" (.ref tV) tS (fun x => z0 ≤ x) U H ∧ va_T .byte tV 84 (fun j => .int (nI (aw_ j))) (fun x => z0 ≤ x) U H ∧ va_Z "java/lang/String" "COMPACT_STRINGS" "Z" (.int 1) (fun x => z0 ≤ x) U H
theorem kz_SX.moved {z0 tS tV : Nat} {u U : State} {H : Heap} (hvm : u.vm.Alike U.vm) (h : kz_SX z0 tS tV u H) : kz_SX z0 tS tV U H := ⟨va_O.moved hvm h.1, va_OF.moved hvm h.2.1, va_OF.moved hvm h.2.2.1, va_T.moved hvm h.2.2.2.1, va_Z.moved hvm h.2.2.2.2⟩
theorem kz_SX.kept {z0 tS tV : Nat} {U : State} {H H1 : Heap} (h : kz_SX z0 tS tV U H) (hq : ∀ a : Nat, a < H.size → ¬ z0 ≤ a → H1[a]? = H[a]?) : kz_SX z0 tS tV U H1 := ⟨h.1.kept hq, h.2.1.kept hq, h.2.2.1.kept hq, h.2.2.2.1.kept hq, h.2.2.2.2.kept hq⟩
theorem kz_SX.same {z0 tS tV : Nat} {u U : State} (hv : U.vm = u.vm) (hh : U.heap = u.heap) (h : kz_SX z0 tS tV u u.heap) : kz_SX z0 tS tV U U.heap := by
  rw [hh]
  exact h.moved (by rw [hv]; exact Vm.Alike.refl _)
/-- from a walk to the place of a call -/
theorem kz_SX.at {z0 tS tV : Nat} {D : va_G} {q : Nat → ClassId} {s T : State} {A : Nat → Prop} {ws : va_W} {H : Heap} {locs : List Loc} (h : kz_SX z0 tS tV s s.heap) (U : kz_U D q s A ws H locs) (hA : ∀ x, A x → z0 ≤ x) (hT : T.heap = H) (hW : s.WarmedH T.vm) : kz_SX z0 tS tV T T.heap := by
  rw [hT]
  exact (h.kept (fun a ha hn => U.2.2.2.1.2.1 a ha (fun z => hn (hA a z)))).moved hW.alike

theorem aw_b (j : Nat) : (((nI (aw_ j) &&& nI 255) : Int32).toUInt32 % 65536).toInt32 = nI (aw_ j) ∧ vp_nar .char (nI (aw_ j)) = nI (aw_ j) := by
  have h := aw_in j
  have e : aw_ j = 97 ∨ aw_ j = 98 ∨ aw_ j = 99 := by omega
  rcases e with e | e | e
  · rw [e]; decide +kernel
  · rw [e]; decide +kernel
  · rw [e]; decide +kernel

set_option maxHeartbeats 4000000 in
set_option maxRecDepth 100000 in
theorem cm_Si (l : Launch) (D : va_G) (q : Nat → ClassId) (z0 tS tV d : Nat) (g : Nat → Int32) (hd0 : z0 ≤ d) : kz_Mn (S := Nat → Int32) l ky_Si kb_Si 6 0 0 0 D q (fun sz U => z0 ≤ sz ∧ kz_SX z0 tS tV U U.heap) [.ref tV, .int (nI 0), .ref d, .int (nI 0), .int (nI 84)] [(d, .inl (q 1, 84, .inl g))] (fun f => ∀ j, j < 84 → f j = nI (aw_ j)) (fun f => [(d, .inl (q 1, 84, .inl f))]) := by
  intro sz_
  refine kz_goZ (by decide +kernel) (Nat.le_of_ble_eq_true rfl) ?_
  intro p e s m below meth c ls args A Q H locs hQ hA hH hsz X hZ U hl
  have hx := X.1
  have hb := X.2.1
  have hAz : ∀ x, A x → z0 ≤ x := by
    intro x hxA
    rw [hA] at hxA
    rcases hxA with ⟨k, e, hk⟩ | hk
    · cases k with
      | zero =>
        have hk : some ((d, .inl (q 1, 84, .inl g)) : Nat × va_E) = some (x, e) := hk
        injection hk with hk
        injection hk with h1 h2
        omega
      | succ k => cases hk
    · have := hZ.1; omega
  have hT := hZ.2.2.2.2.1.narrow (B := A) hAz
  have hl : lv_has ls 6 [(0, .ref tV), (1, .int (nI 0)), (2, .ref d), (3, .int (nI 0)), (4, .int (nI 84))] := hl
  refine kz_ic X 0 kd_Si_0 (by decide) ?_
  refine lv_istore hx hb kd_Si_1 hl (by decide) rfl (fun ls hl => ?_)
  have hl : lv_has ls 6 [(5, .int (nI 0)), (0, .ref tV), (1, .int (nI 0)), (2, .ref d), (3, .int (nI 0)), (4, .int (nI 84))] := hl
  have main : ∀ (k i : Nat) (f : Nat → Int32) (H : Heap) (locs : List Loc) (ls : Array Slot), i + k = 84 → lv_has ls 6 [(5, .int (nI i)), (0, .ref tV), (1, .int (nI i)), (2, .ref d), (3, .int (nI i)), (4, .int (nI 84))] → (∀ j, j < i → f j = nI (aw_ j)) → kz_U D q s A [(d, .inl (q 1, 84, .inl f))] H locs → W p l e (kz_rmN 0 0 0) s m args below meth c H locs 0 0 Q (F0 m 3 ls []) := by
    intro k
    induction k with
    | zero =>
      intro i f H locs ls hk hl hf U
      have e : i = 84 := by omega
      subst e
      refine lv_iload hx hb kd_Si_3 (lv_at hl 0 rfl) ?_
      refine lv_iload hx hb kd_Si_5 (lv_at hl 5 rfl) ?_
      refine kz_icge X (by omega) (by omega) kd_Si_7 rfl (fun _ => ?_) (fun h => absurd h (by omega))
      exact kz_evN hQ hA X U f rfl hf kd_Si_33
    | succ k ih =>
      intro i f H locs ls hk hl hf U
      refine lv_iload hx hb kd_Si_3 (lv_at hl 0 rfl) ?_
      refine lv_iload hx hb kd_Si_5 (lv_at hl 5 rfl) ?_
      refine kz_icge X (by omega) (by omega) kd_Si_7 rfl (fun h => absurd h (by omega)) (fun _ => ?_)
      refine lv_aload_n hx hb kd_Si_10 rfl (lv_at hl 3 rfl) ?_
      refine lv_iload_n hx hb kd_Si_11 rfl (lv_at hl 4 rfl) ?_
      refine lv_iinc (k := 4) (v := nI (i + 1)) hx hb kd_Si_12 hl rfl (nI_add i 1) (by decide) rfl (fun ls hl => ?_)
      have hl : lv_has ls 6 [(3, .int (nI (i + 1))), (5, .int (nI i)), (0, .ref tV), (1, .int (nI i)), (2, .ref d), (4, .int (nI 84))] := hl
      refine lv_aload_n hx hb kd_Si_15 rfl (lv_at hl 2 rfl) ?_
      refine lv_iload_n hx hb kd_Si_16 rfl (lv_at hl 3 rfl) ?_
      refine lv_iinc (k := 3) (v := nI (i + 1)) hx hb kd_Si_17 hl rfl (nI_add i 1) (by decide) rfl (fun ls hl => ?_)
      have hl : lv_has ls 6 [(1, .int (nI (i + 1))), (3, .int (nI (i + 1))), (5, .int (nI i)), (0, .ref tV), (2, .ref d), (4, .int (nI 84))] := hl
      refine va_tb (v := .int (nI (aw_ i))) hx hb hT U.2.2.2.1 (vp_in_nI (by omega) (by omega)) (by rw [nI_clamp (by omega)]) kd_Si_20 ?_
      refine kz_sp X 255 kd_Si_21 (by decide) ?_
      refine lv_iand hx hb kd_Si_24 ?_
      refine lv_i2c hx hb kd_Si_25 (aw_b i).1 ?_
      refine kz_cast (k := i) X U 0 rfl (by omega) (by omega) (aw_b i).2 kd_Si_26 (fun H locs U => ?_)
      have U : kz_U D q s A [(d, .inl (q 1, 84, .inl (upd f i (nI (aw_ i)))))] H locs := U
      refine lv_iinc (k := 2) (v := nI (i + 1)) hx hb kd_Si_27 hl rfl (nI_add i 1) (by decide) rfl (fun ls hl => ?_)
      have hl : lv_has ls 6 [(5, .int (nI (i + 1))), (1, .int (nI (i + 1))), (3, .int (nI (i + 1))), (0, .ref tV), (2, .ref d), (4, .int (nI 84))] := hl
      refine lv_goto hx hb kd_Si_30 rfl ?_
      refine ih (i + 1) _ H locs ls (by omega) (lv_sub hl [0, 3, 1, 4, 2, 5] rfl) (fun j hj => ?_) U
      by_cases ej : j = i
      · rw [ej, pk_us]
      · rw [pk_un ej]
        exact hf j (by omega)
  exact main 84 0 g H locs ls rfl hl (fun j hj => absurd hj (Nat.not_lt_zero _)) U


theorem kz_SXs {z0 tS tV sz : Nat} : kz_Zs (fun U => z0 ≤ sz ∧ kz_SX z0 tS tV U U.heap) := fun _ _ hv hh h => ⟨h.1, h.2.same hv hh⟩

def kz_MrN {S : Type} (l : Launch) (y : MethodName) (cc : ByteArray) (n : Nat) (ret : Option FieldType) (d mc ms : Nat) (D : va_G) (q : Nat → ClassId) (Z : Nat → State → Prop) (av : List Value) (post : S → Prop) (w1 : Nat → S → va_W) : Prop := ∀ sz, Met l y (.code y cc n ret :: kw_T) (kz_rmN d mc ms) (kz_PreZ D q av sz [] (Z sz)) (va_Qr post (fun u a t => kz_B D [] sz (w1 a) u t) (va_A [] sz)) mc ms (va_A [] sz)

set_option maxHeartbeats 4000000 in
set_option maxRecDepth 100000 in
theorem cm_Sc (l : Launch) (D : va_G) (q : Nat → ClassId) (z0 tS tV : Nat) : kz_MrN (S := Nat → Int32) l ky_Sc kb_Sc 2 (some (.array .char)) 1 1 84 D q (fun sz U => z0 ≤ sz ∧ kz_SX z0 tS tV U U.heap) [.ref tV] (fun f => ∀ j, j < 84 → f j = nI (aw_ j)) (fun a f => [(a, .inl (q 1, 84, .inl f))]) := by
  intro sz_
  refine kz_goZ (by decide +kernel) (Nat.le_of_ble_eq_true rfl) ?_
  intro p e s m below meth c ls args A Q H locs hQ hA hH hsz X hZ U hl
  have hx := X.1
  have hb := X.2.1
  have hAz : ∀ x, A x → z0 ≤ x := by
    intro x hxA
    rw [hA] at hxA
    rcases hxA with ⟨k, e, hk⟩ | hk
    · cases hk
    · have := hZ.1; omega
  have hT := hZ.2.2.2.2.1.narrow (B := A) hAz
  have hl : lv_has ls 2 [(0, .ref tV)] := hl
  refine lv_aload_n hx hb kd_Sc_0 rfl (lv_at hl 0 rfl) ?_
  refine va_tlen (v := nI 84) hx hb hT U.2.2.2.1 rfl kd_Sc_1 ?_
  refine kz_newC X U (by decide) (Nat.le_of_ble_eq_true rfl) (Nat.le_of_ble_eq_true rfl) kd_Sc_2 (fun d H U => ?_)
  have U : kz_U D q s A [(d, .inl (q 1, 84, .inl (fun _ => 0)))] H locs := U
  have hd0 : z0 ≤ d := hAz d (U.2.2.1.2 0 _ rfl)
  refine lv_astore_n hx hb kd_Sc_4 rfl hl (by decide) rfl (fun ls hl => ?_)
  have hl : lv_has ls 2 [(1, .ref d), (0, .ref tV)] := hl
  refine lv_aload_n hx hb kd_Sc_5 rfl (lv_at hl 1 rfl) ?_
  refine kz_ic X 0 kd_Sc_6 (by decide) ?_
  refine lv_aload_n hx hb kd_Sc_7 rfl (lv_at hl 0 rfl) ?_
  refine kz_ic X 0 kd_Sc_8 (by decide) ?_
  refine lv_aload_n hx hb kd_Sc_9 rfl (lv_at hl 1 rfl) ?_
  refine va_tlen (v := nI 84) hx hb hT U.2.2.2.1 rfl kd_Sc_10 ?_
  refine va_callv (va_runS (As := [.ref tV, .int (nI 0), .ref d, .int (nI 0), .int (nI 84)]) (rest := []) ⟨X.1, X.2.1, X.2.2.1, X.2.2.2.1, X.2.2.2.2.1⟩ (cm_Si l D q z0 tS tV d (fun _ => 0) hd0 H.size) ⟨callB_of 5 X.2.2.2.2.1 (kz_gi tb_59) rfl rfl rfl (X.2.2.2.2.1 _ tb_4) (X.2.2.2.2.1 _ tb_57) ⟨by decide, by decide, by decide +kernel⟩ ⟨Nat.le_of_ble_eq_true rfl, Nat.le_of_ble_eq_true rfl⟩, X.2.2.2.2.1 _ tb_58⟩ ⟨kz_blindZ kz_SXs, kz_cPZ (wc := [(d, .inl (q 1, 84, .inl (fun _ => 0)))]) U (fun T hT2 hW => ⟨by have := U.2.2.2.1.1; have := hZ.1; omega, hZ.2.at U hAz hT2 hW⟩) [0] (by decide) rfl⟩ rfl rfl hl.1 rfl (lv_room (Nat.le_of_ble_eq_true rfl)) kd_Sc_11 ⟨Nat.le_of_ble_eq_true rfl, Nat.le_of_ble_eq_true rfl⟩) U.2.2.2.1 (fun x _ h => va_free U.2.2.1 U.2.2.2.1 U.2.2.2.2 [0] (wc := [(d, .inl (q 1, 84, .inl (fun _ => 0)))]) rfl x h) (va_free U.2.2.1 U.2.2.2.1 U.2.2.2.2 [0] (wc := [(d, .inl (q 1, 84, .inl (fun _ => 0)))]) rfl) (fun f t H1 locs1 ht hvm hp hB hz hk hS => ?_)
  have U : kz_U D q s A [(d, .inl (q 1, 84, .inl f))] H1 locs1 := kz_cJ (wc := [(d, .inl (q 1, 84, .inl (fun _ => 0)))]) (wr := []) U [0] [] rfl rfl (by decide) (by decide) ht hB hk hS
  refine lv_aload_n hx hb kd_Sc_14 rfl (lv_at hl 0 rfl) ?_
  subst hQ
  subst hA
  exact W.aret X.1 X.2.1 X.2.2.2.2.2.1 (Or.inr ⟨_, rfl⟩) (Or.inr ⟨_, rfl⟩) (fun t ht hW => ⟨⟨f, d, rfl, hp, by rw [ht]; exact U.2.1, U.2.2.1⟩, U.2.2.2.1.F ht⟩) U.2.2.2.1.2.2 kd_Sc_15 X.2.2.2.2.2.2

set_option maxHeartbeats 4000000 in
set_option maxRecDepth 100000 in
theorem cm_Sl (l : Launch) (D : va_G) (q : Nat → ClassId) (z0 tS tV : Nat) : ∀ sz, Met l ky_Sl (.code ky_Sl kb_Sl 1 (some .boolean) :: kw_T) (kz_rmN 0 0 0) (kz_PreZ D q [.ref tS] sz [] (fun U => z0 ≤ sz ∧ kz_SX z0 tS tV U U.heap)) (va_Qi (fun r (_ : Unit) => r = 1) (kz_B D [] sz (fun _ => [])) (va_A [] sz)) 0 0 (va_A [] sz) := by
  intro sz_
  refine kz_goZ (by decide +kernel) (Nat.le_of_ble_eq_true rfl) ?_
  intro p e s m below meth c ls args A Q H locs hQ hA hH hsz X hZ U hl
  have hx := X.1
  have hb := X.2.1
  have hAz : ∀ x, A x → z0 ≤ x := by
    intro x hxA
    rw [hA] at hxA
    rcases hxA with ⟨k, e, hk⟩ | hk
    · cases hk
    · have := hZ.1; omega
  have hC := hZ.2.2.1.narrow (B := A) hAz
  have hG := hZ.2.2.2.2.2.narrow (B := A) hAz
  have hl : lv_has ls 1 [(0, .ref tS)] := hl
  refine va_gets hx hb hG U.2.2.2.1 X.2.2.2.1 (X.2.2.2.2.1 _ tb_52) (fun x h => h) kd_Sl_0 ?_
  refine lv_if_eq hx hb kd_Sl_3 rfl (fun h => absurd h (by decide)) (fun _ => ?_)
  refine lv_aload_n hx hb kd_Sl_6 rfl (lv_at hl 0 rfl) ?_
  refine vk_getf hx hb hC U.2.2.2.1 X.2.2.2.1 (X.2.2.2.2.1 _ tb_665) (fun x h => h) kd_Sl_7 ?_
  refine lv_if_ne hx hb kd_Sl_10 rfl (fun h => absurd rfl h) (fun _ => ?_)
  refine kz_ic X 1 kd_Sl_13 (by decide) ?_
  refine lv_goto hx hb kd_Sl_14 rfl ?_
  subst hQ
  subst hA
  exact W.zret X.1 X.2.1 X.2.2.2.2.2.1 (by decide +kernel) (fun t ht hW => ⟨⟨nI 1, (), rfl, rfl, by rw [ht]; exact U.2.1, U.2.2.1⟩, U.2.2.2.1.F ht⟩) U.2.2.2.1.2.2 kd_Sl_18 X.2.2.2.2.2.2

set_option maxHeartbeats 4000000 in
set_option maxRecDepth 100000 in
theorem cm_Sa (l : Launch) (D : va_G) (q : Nat → ClassId) (z0 tS tV : Nat) : kz_MrN (S := Nat → Int32) l ky_Sa kb_Sa 1 (some (.array .char)) 2 1 84 D q (fun sz U => z0 ≤ sz ∧ kz_SX z0 tS tV U U.heap) [.ref tS] (fun f => ∀ j, j < 84 → f j = nI (aw_ j)) (fun a f => [(a, .inl (q 1, 84, .inl f))]) := by
  intro sz_
  refine kz_goZ (by decide +kernel) (Nat.le_of_ble_eq_true rfl) ?_
  intro p e s m below meth c ls args A Q H locs hQ hA hH hsz X hZ U hl
  have hx := X.1
  have hb := X.2.1
  have hAz : ∀ x, A x → z0 ≤ x := by
    intro x hxA
    rw [hA] at hxA
    rcases hxA with ⟨k, e, hk⟩ | hk
    · cases hk
    · have := hZ.1; omega
  have hO := hZ.2.1.narrow (B := A) hAz
  have hV := hZ.2.2.2.1.narrow (B := A) hAz
  have hl : lv_has ls 1 [(0, .ref tS)] := hl
  refine lv_aload_n hx hb kd_Sa_0 rfl (lv_at hl 0 rfl) ?_
  have hr : ∃ cell : Cell, H[tS]? = some cell ∧ cell.vm.isStatics = false ∧ s.vm.findClass "java/lang/String" = some cell.cls := by
    obtain ⟨cell, h1, h2, h3, -⟩ := hO.kept U.2.2.2.1.2.1
    exact ⟨cell, h1, h2, h3⟩
  refine va_calli (va_runV (As := []) (rest := []) (C := "java/lang/String") ⟨X.1, X.2.1, X.2.2.1, X.2.2.2.1, X.2.2.2.2.1⟩ (cm_Sl l D q z0 tS tV H.size) ⟨callB_of 0 X.2.2.2.2.1 (kz_gi tb_51) rfl rfl rfl (X.2.2.2.2.1 _ tb_3) (X.2.2.2.2.1 _ tb_48) ⟨by decide, by decide, by decide +kernel⟩ ⟨Nat.le_of_ble_eq_true rfl, Nat.le_of_ble_eq_true rfl⟩, X.2.2.2.2.1 _ tb_49, X.2.2.2.2.1 _ tb_50⟩ ⟨kz_blindZ kz_SXs, hr, kz_cPZ (wc := []) U (fun T hT2 hW => ⟨by have := U.2.2.2.1.1; have := hZ.1; omega, hZ.2.at U hAz hT2 hW⟩) [] (by decide) rfl⟩ rfl rfl hl.1 rfl (lv_room (Nat.le_of_ble_eq_true rfl)) kd_Sa_1 ⟨Nat.le_of_ble_eq_true rfl, Nat.le_of_ble_eq_true rfl⟩) U.2.2.2.1 (fun x _ h => va_free U.2.2.1 U.2.2.2.1 U.2.2.2.2 [] (wc := []) rfl x h) (va_free U.2.2.1 U.2.2.2.1 U.2.2.2.2 [] (wc := []) rfl) (fun r u t H1 locs1 ht hvm hp hB hz hk hS => ?_)
  subst hp
  have U : kz_U D q s A [] H1 locs1 := kz_cJ (wc := []) (wr := []) U [] [] rfl rfl (by decide) (by decide) ht hB hk hS
  refine lv_if_eq hx hb kd_Sa_4 rfl (fun h => absurd h (by decide)) (fun _ => ?_)
  refine lv_aload_n hx hb kd_Sa_7 rfl (lv_at hl 0 rfl) ?_
  refine vk_getf hx hb hV U.2.2.2.1 X.2.2.2.1 (X.2.2.2.2.1 _ tb_666) (fun x h => h) kd_Sa_8 ?_
  refine va_callr (va_runS (As := [.ref tV]) (rest := []) ⟨X.1, X.2.1, X.2.2.1, X.2.2.2.1, X.2.2.2.2.1⟩ (cm_Sc l D q z0 tS tV H1.size) ⟨callB_of 1 X.2.2.2.2.1 (kz_gi tb_56) rfl rfl rfl (X.2.2.2.2.1 _ tb_4) (X.2.2.2.2.1 _ tb_54) ⟨by decide, by decide, by decide +kernel⟩ ⟨Nat.le_of_ble_eq_true rfl, Nat.le_of_ble_eq_true rfl⟩, X.2.2.2.2.1 _ tb_55⟩ ⟨kz_blindZ kz_SXs, kz_cPZ (wc := []) U (fun T hT2 hW => ⟨by have := U.2.2.2.1.1; have := hZ.1; omega, hZ.2.at U hAz hT2 hW⟩) [] (by decide) rfl⟩ rfl rfl hl.1 rfl (lv_room (Nat.le_of_ble_eq_true rfl)) kd_Sa_11 ⟨Nat.le_of_ble_eq_true rfl, Nat.le_of_ble_eq_true rfl⟩) U.2.2.2.1 (fun x _ h => va_free U.2.2.1 U.2.2.2.1 U.2.2.2.2 [] (wc := []) rfl x h) (va_free U.2.2.1 U.2.2.2.1 U.2.2.2.2 [] (wc := []) rfl) (fun f a t H1 locs1 ht hvm hp hB hz hk hS => ?_)
  have U : kz_U D q s A [(a, .inl (q 1, 84, .inl f))] H1 locs1 := kz_cJ (w1 := fun f => [(a, .inl (q 1, 84, .inl f))]) (wc := []) (wr := []) U [] [] rfl rfl (by decide) (by decide) ht hB hk hS
  refine lv_goto hx hb kd_Sa_14 rfl ?_
  subst hQ
  subst hA
  exact W.aret X.1 X.2.1 X.2.2.2.2.2.1 (Or.inr ⟨_, rfl⟩) (Or.inr ⟨_, rfl⟩) (fun t ht hW => ⟨⟨f, a, rfl, hp, by rw [ht]; exact U.2.1, U.2.2.1⟩, U.2.2.2.1.F ht⟩) U.2.2.2.1.2.2 kd_Sa_24 X.2.2.2.2.2.2
