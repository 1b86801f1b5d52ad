/-! new int[41][85], out of the operation itself -/
def mq_o (cA : ClassId) (N h i : Nat) : Cell := arrV cA N (fun j => va_rf (if j < i then some (h + 1 + j) else none))
def mq_r (cI : ClassId) (M : Nat) : Cell := arrV cI M (fun _ => .int 0)
/-- when i of the rows are made and hung in -/
def mq_s (T : State) (cA cI : ClassId) (N M : Nat) : Nat → State
  | 0 => T.pushCell (mq_o cA N T.heap.size 0)
  | i + 1 => ((mq_s T cA cI N M i).pushCell (mq_r cI M)).setCell T.heap.size (mq_o cA N T.heap.size (i + 1))

theorem mq_o_s (cA : ClassId) (N h i : Nat) : (mq_o cA N h i).setSlot i (.ref (h + 1 + i)) = mq_o cA N h (i + 1) := by
  unfold mq_o
  rw [arrV_store]
  congr 1
  funext j
  by_cases e : j = i
  · subst e
    simp [updV, va_rf]
  · by_cases k : j < i
    · simp [updV, e, k, Nat.lt_succ_of_lt k]
    · simp [updV, e, k, show ¬ j < i + 1 by omega]

theorem mq_o_0 (cA : ClassId) (N h : Nat) : mq_o cA N h 0 = arrV cA N (fun _ => .null) := by
  unfold mq_o
  congr 1

theorem mq_f (T : State) (cA cI : ClassId) (N M : Nat) : ∀ i, (mq_s T cA cI N M i).heap.size = T.heap.size + 1 + i ∧ (mq_s T cA cI N M i).heap[T.heap.size]? = some (mq_o cA N T.heap.size i) ∧ (mq_s T cA cI N M i).vm = T.vm ∧ (mq_s T cA cI N M i).slotsUsed = T.slotsUsed + N + i * M ∧ (∀ a, a < T.heap.size → (mq_s T cA cI N M i).heap[a]? = T.heap[a]?) ∧ (∀ j, j < i → (mq_s T cA cI N M i).heap[T.heap.size + 1 + j]? = some (mq_r cI M))
  | 0 => ⟨by simp [mq_s], by simp [mq_s], rfl, by simp [mq_s, mq_o, arrV_size], fun a ha => State.heap_pushCell_of_lt _ _ ha, fun j hj => absurd hj (Nat.not_lt_zero _)⟩
  | i + 1 => by
    obtain ⟨h1, h2, h3, h4, h5, h6⟩ := mq_f T cA cI N M i
    have lt0 : T.heap.size < (mq_s T cA cI N M i).heap.size := by omega
    have c0 : ((mq_s T cA cI N M i).pushCell (mq_r cI M)).heap[T.heap.size]? = some (mq_o cA N T.heap.size i) := by
      rw [State.heap_pushCell_of_lt (h := lt0)]
      exact h2
    refine ⟨?_, State.heap_setCell_self c0, by simp [mq_s, h3], ?_, fun a ha => ?_, fun j hj => ?_⟩
    · simp [mq_s, State.setCell, h1]
      omega
    · simp [mq_s, h4, mq_r, arrV_size, Nat.succ_mul]
      omega
    · show (((mq_s T cA cI N M i).pushCell (mq_r cI M)).setCell T.heap.size _).heap[a]? = _
      rw [State.heap_setCell_other (Nat.ne_of_gt ha), State.heap_pushCell_of_lt (h := (show a < (mq_s T cA cI N M i).heap.size by omega))]
      exact h5 a ha
    · show (((mq_s T cA cI N M i).pushCell (mq_r cI M)).setCell T.heap.size _).heap[T.heap.size + 1 + j]? = _
      rw [State.heap_setCell_other (show T.heap.size ≠ T.heap.size + 1 + j by omega)]
      by_cases e : j = i
      · subst e
        rw [← h1]
        exact State.heap_pushCell_size _ _
      · rw [State.heap_pushCell_of_lt (h := (show T.heap.size + 1 + j < (mq_s T cA cI N M i).heap.size by omega))]
        exact h6 j (by omega)

theorem mq_top (T : State) (f : JFrame) (cA cI : ClassId) (N M : Nat) : ∀ i, mq_s (T.setTop f) cA cI N M i = (mq_s T cA cI N M i).setTop f
  | 0 => rfl
  | i + 1 => by
    show ((mq_s (T.setTop f) cA cI N M i).pushCell (mq_r cI M)).setCell (T.setTop f).heap.size _ = _
    rw [mq_top T f cA cI N M i]
    rfl

section MQ
variable {E : CtlPost} {e : Env} {d : Bool} {acts : List Action} {s : State}
theorem mq_new {cA cI : ClassId} {k : Class} {ty : FieldType} {n : Nat} {v : Value} (hk : s.vm.classes[cA]? = some k) (hkind : k.kind = .array cI ty) (h1 : ¬ n > e.platform.arrayLengthLimit) (h2 : ¬ n * componentBytes ty > e.platform.maxHeapBytes) (h3 : fits ty v = true) (h4 : v.isDefault = true) {Q : Addr → Pre} (h5 : s.heap.size < e.platform.maxCells) (h6 : s.slotsUsed + n ≤ e.platform.maxSlots) (hq : Q s.heap.size d acts (s.pushCell (arrV cA n (fun _ => v)))) : wp (Jvm.newArray cA n v) Q E e d acts s := by
  rw [← arrV_new] at hq
  have hf : ∀ i x, (Array.replicate n v)[i]? = some x → s.fitsSlot cA .none i x = true := by
    intro i x hx
    rw [Array.getElem?_replicate] at hx
    split at hx
    · cases hx
      simp [State.fitsSlot, State.slotType?, hk, hkind, h3]
    · cases hx
  have ha : allocActs (Array.replicate n v) s.heap.size acts = acts := by
    unfold allocActs
    rw [if_pos (by rw [Array.all_replicate]; split <;> simp [h4])]
  simp only [Jvm.newArray, Jvm.arrayFits, wp_bind', Jvm.W.ask, Jvm.W.ite, h1, if_false, wp_pure', Jvm.W.theClass, hk, hkind, h2, Jvm.W.alloc, Jvm.W.stop, Option.some.injEq, exists_eq_left', Array.size_replicate, ha]
  rw [if_neg (by omega)]
  exact ⟨h5, h6, hf, hq⟩

theorem mq_two {cA cI cc : ClassId} {kA kI : Class} {N M : Nat} (hkA : s.vm.classes[cA]? = some kA) (hA : kA.kind = .array cI (.array .int)) (hkI : s.vm.classes[cI]? = some kI) (hI : kI.kind = .array cc .int) (hN : N < 2 ^ 31) (hM : M < 2 ^ 31) (h1 : ¬ N > e.platform.arrayLengthLimit) (h2 : ¬ N * 4 > e.platform.maxHeapBytes) (h3 : ¬ M > e.platform.arrayLengthLimit) (h4 : ¬ M * 4 > e.platform.maxHeapBytes) (h5 : s.heap.size + 1 + N ≤ e.platform.maxCells) (h6 : s.slotsUsed + N + N * M ≤ e.platform.maxSlots) {Q : Addr → Pre} (hq : ∀ d' acts', Q s.heap.size d' acts' (mq_s s cA cI N M N)) : wp (Jvm.Op.multianewarray.make cA [nI N, nI M]) Q E e d acts s := by
  have n0 : ¬ nI N < 0 := nI_pos hN
  have m0 : ¬ nI M < 0 := nI_pos hM
  have nc : (nI N).toNatClampNeg = N := nI_clamp hN
  have mc : (nI M).toNatClampNeg = M := nI_clamp hM
  have hfind : ([nI M].find? (· < 0)) = none := by simp [m0]
  rw [Jvm.Op.multianewarray.make]
  simp only [wp_bind', Jvm.W.ite, n0, if_false, wp_pure', Jvm.W.theClass, hkA, hA, Option.some.injEq, exists_eq_left', nc]
  refine mq_new hkA hA h1 h2 rfl rfl (by omega) (by have := Nat.zero_le (N * M); omega) ?_
  rw [← mq_o_0 cA N s.heap.size]
  simp only [hfind]
  rw [ite_self, wp_bind', Std.Legacy.Range.forIn_eq_forIn_range']
  have hsz : ([:N] : Std.Legacy.Range).size = N := by simp [Std.Legacy.Range.size]
  rw [hsz]
  show wp (forIn (List.range' 0 N 1) PUnit.unit _) _ E e d acts _
  refine wp_forIn_inv (fun rest s' => ∃ i, i ≤ N ∧ rest = List.range' i (N - i) ∧ s' = mq_s s cA cI N M i) _ _ ⟨0, Nat.zero_le _, rfl, rfl⟩ ?_ ?_
  · rintro x rest s' d' acts' Q' ⟨i, hi, hl, rfl⟩ hnext
    have hlt : i < N := Nat.lt_of_le_of_ne hi (fun z => by rw [z, Nat.sub_self] at hl; cases hl)
    rw [show N - i = (N - (i + 1)) + 1 by omega, List.range'_succ] at hl
    injection hl with e1 e2
    subst e1
    obtain ⟨f1, f2, f3, f4, f5, f6⟩ := mq_f s cA cI N M x
    have hmul : x * M + M ≤ N * M := by
      have := Nat.mul_le_mul_right M (show x + 1 ≤ N from hlt)
      rw [Nat.succ_mul] at this
      exact this
    simp only [wp_bind']
    rw [Jvm.Op.multianewarray.make]
    simp only [wp_bind', Jvm.W.ite, m0, if_false, wp_pure', Jvm.W.theClass, f3, hkI, hI, Option.some.injEq, exists_eq_left', mc]
    refine mq_new (by rw [f3]; exact hkI) hI h3 h4 rfl rfl (by rw [f1]; omega) (by rw [f4]; omega) ?_
    have lt0 : s.heap.size < (mq_s s cA cI N M x).heap.size := by omega
    have es : (mq_o cA N s.heap.size x).slots.size = N := arrV_size _ _ _
    simp only [wp_bind', Jvm.W.writeLoc, wp_pure']
    refine ⟨mq_o cA N s.heap.size x, by rw [State.heap_pushCell_of_lt (h := lt0)]; exact f2, by unfold mq_o arrV; simp, by rw [es]; exact hlt, ?_, hnext _ _ _ ⟨x + 1, hlt, e2, ?_⟩⟩
    · show State.fitsSlot _ cA .none x _ = true
      simp [State.fitsSlot, State.slotType?, f3, hkA, hA, fits]
    · rw [f1, mq_o_s]
      rfl
  · rintro s' d' acts' ⟨i, hi, hl, rfl⟩
    have e : i = N := Nat.le_antisymm hi (Nat.le_of_not_lt (fun z => by rw [show N - i = (N - (i + 1)) + 1 by omega, List.range'_succ] at hl; cases hl))
    subst e
    simp only [wp_pure']
    exact hq _ _
end MQ

section MQS
variable {p : Program} {l : Launch} {e : Env} {R : Room} {s : State} {m : MethodId} {args : Array Value} {below : List Frame} {meth : Method} {c : Code} {T : State} {locs : List Loc} {cells slots : Nat}
theorem mq_X (X : Stand p l e R s m args below meth c T locs cells slots) (cA cI : ClassId) (N M : Nat) : ∀ i, Stand p l e R s m args below meth c (mq_s T cA cI N M i) (locs ++ (List.range i).map fun j => ⟨T.heap.size, j⟩) (cells + 1 + i) (slots + N + i * M)
  | 0 => by
    have h := X.pushed (mq_o cA N T.heap.size 0)
    rw [show (mq_o cA N T.heap.size 0).slots.size = N from arrV_size _ _ _] at h
    simpa [mq_s] using h
  | i + 1 => by
    obtain ⟨f1, f2, -, -, -, -⟩ := mq_f T cA cI N M i
    have c0 : ((mq_s T cA cI N M i).pushCell (mq_r cI M)).heap[T.heap.size]? = some (mq_o cA N T.heap.size i) := by
      rw [State.heap_pushCell_of_lt (h := (show T.heap.size < (mq_s T cA cI N M i).heap.size by omega))]
      exact f2
    have h := ((mq_X X cA cI N M i).pushed (mq_r cI M)).stored c0 i (.ref (T.heap.size + 1 + i))
    rw [show (mq_r cI M).slots.size = M from arrV_size _ _ _, mq_o_s] at h
    have e1 : (locs ++ (List.range (i + 1)).map fun j => (⟨T.heap.size, j⟩ : Loc)) = (locs ++ (List.range i).map fun j => (⟨T.heap.size, j⟩ : Loc)) ++ [⟨T.heap.size, i⟩] := by simp [List.range_succ, List.append_assoc]
    rw [e1, show slots + N + (i + 1) * M = slots + N + i * M + M by rw [Nat.succ_mul]; omega]
    exact h

theorem mq_go (X : Stand p l e R s m args below meth c T locs cells slots) (hexec : p.tables.exec = Jvm.exec) {own : String} {index N M : Nat} (hown : s.vm.findClass own = some m.cls) (hclink : (Cond.classLink own index ("[" ++ (FieldType.array .int).toString)).before args s = true) (hover : (Cond.arrayOver (.array .int)).before args s = true) (harr : (Cond.arrayClass .int).before args s = true) {g : JFrame} (hg : g.method = m) (hdg : decode c.code g.pc = .ok (.multianewarray index 2, 4)) {rest : List Value} (hstack : g.stack = .int (nI M) :: .int (nI N) :: rest) (hN : N ≤ 1000) (hM : M ≤ 1000) (hcells : cells + (1 + N) ≤ R.cells) (hslots : slots + (N + N * M) ≤ R.slots) :
    ∃ (vm₁ : Vm) (cA cI : ClassId) (kA : Class), s.WarmedH vm₁ ∧ s.vm.findClass ("[" ++ (FieldType.array .int).toString) = some cA ∧ s.vm.findClass (FieldType.array .int).toString = some cI ∧ s.vm.classes[cA]? = some kA ∧ kA.kind = .array cI (.array .int) ∧ Stand p l e R s m args below meth c (mq_s (T.setVm vm₁) cA cI N M N) (locs ++ (List.range N).map fun j => ⟨T.heap.size, j⟩) (cells + 1 + N) (slots + N + N * M) ∧
      ∀ target, Steps p.tables e below ((mq_s (T.setVm vm₁) cA cI N M N).setTop { g with pc := g.pc + 4, stack := .ref T.heap.size :: rest }) target → Steps p.tables e below (T.setTop g) target := by
  subst hg
  have hpl : e.platform.magicAccessors = ({} : Platform).magicAccessors := by rw [X.admits.platform]
  obtain ⟨cI, cA, kA, o1, o2, o3, o4, o5⟩ := arrayOverA_spec hover
  obtain ⟨cI', kI, cc, i1, i2, i3⟩ := Cond.arrayClass_spec harr
  have ec : cI' = cI := Option.some.inj (i1.symm.trans o1)
  subst ec
  obtain ⟨c0, l1, l2⟩ := Cond.classLink_spec hown hclink e.platform hpl
  have e0 : c0 = cA := Option.some.inj (l1.symm.trans o5)
  subst e0
  obtain ⟨w1, w2, w3⟩ := State.classEntry (e := e) X.warmed l2
  generalize T.vm.noted g.method.cls index (.cls c0) = vm₁ at w1 w2 w3
  obtain ⟨kA₁, a1, a2⟩ := w2.alike.2.2 _ _ o3
  obtain ⟨kI₁, b1, b2⟩ := w2.alike.2.2 _ _ i2
  have X₁ := X.noted w2
  obtain ⟨r1, r2⟩ := X.roomAbove hcells hslots
  have XF := mq_X X₁ c0 cI' N M N
  refine ⟨vm₁, c0, cI', kA, w2, o5, o1, o3, o4, XF, fun target hrest => ?_⟩
  have lim : e.platform.arrayLengthLimit = _ := Launch.admits_arrayLengthLimit X.admits
  have byt : e.platform.maxHeapBytes = _ := Launch.admits_maxHeapBytes X.admits
  jvm_step X.here [hexec, hdg]
  simp only [Jvm.Op.multianewarray.sem, wp_bind', Jvm.W.resolveClassAt_links (State.method?_setTop g X.here.top) w1]
  rw [Jvm.W.popN, if_neg (by decide)]
  refine ⟨g, State.topJava?_setTop' (s := T.setVm vm₁) g X.here.top, [.int (nI N), .int (nI M)], rest, rfl, hstack, ?_⟩
  simp only [List.mapM_cons, List.mapM_nil, wp_bind', wp_pure']
  refine mq_two (kA := kA₁) (kI := kI₁) (cI := cI') (cc := cc) a1 (by rw [a2]; exact o4) b1 (by rw [b2]; exact i3) (by omega) (by omega) (by rw [lim]; omega) (by rw [byt]; omega) (by rw [lim]; omega) (by rw [byt]; omega) (by show T.heap.size + 1 + N ≤ _; omega) (by show T.slotsUsed + N + N * M ≤ _; omega) (fun d' acts' => ?_)
  have eS : ((T.setTop g).setVm vm₁).setTop { g with stack := rest } = (T.setVm vm₁).setTop { g with stack := rest } := by
    show ((T.setVm vm₁).setTop g).setTop _ = _
    rw [State.setTop_setTop]
  rw [eS, mq_top]
  simp only [wp_bind', Jvm.W.mark, Jvm.W.pushRef, State.topJava?_setTop' _ XF.here.top, Option.some.injEq, exists_eq_left', State.setTop_setTop, State.heap_setTop]
  intro acts
  simp [jvm, XF.here.top]
  exact hrest
end MQS

/-- what an array over arrays wants of the tables -/
def va_AOA (ty : FieldType) (U : State) : Prop := (Cond.arrayOver (.array ty)).before #[] U = true
theorem kz_mna {p : Program} {l : Launch} {e : Env} {R : Room} {s : State} {m : MethodId} {args : Array Value} {below : List Frame} {meth : Method} {c : Code} {H : Heap} {locs : List Loc} {cells slots : Nat} {Q : State → Prop} {cc : ByteArray} {pc nL index : Nat} {ls : Array Slot} {rest : List Value} {own : String} {ret : Option FieldType} {D : va_G} {q : Nat → ClassId} {A : Nat → Prop} {ws : va_W} (X : kz_C p m c cc nL own s args meth ret) (U : kz_U D q s A ws H locs) (hZ : va_AOA .int s) (hcl : Cond.classLink own index "[[I" ∈ kw_T) (hcells : cells + 42 ≤ R.cells) (hslots : slots + 3526 ≤ R.slots) (hdg : decode cc pc = .ok (.multianewarray index 2, 4)) (kk : ∀ (a : Nat) (r : Nat → Nat) (H1 : Heap), kz_U D q s A ((ws ++ [(a, .inl (q 4, 41, .inr (.inr (.inr (.inr (kz_so r))))))]) ++ kz_st q r (fun _ _ => 0) (List.range 41)) H1 locs → W p l e R s m args below meth c H1 locs (cells + 42) (slots + 3526) Q (F0 m (pc + 4) ls (.ref a :: rest))) : W p l e R s m args below meth c H locs cells slots Q (F0 m pc ls (.int (nI 85) :: .int (nI 41) :: rest)) := by
  intro T hT Xs
  obtain ⟨vm₁, cA, cI, kA, -, fA, fI, -, -, X', step⟩ := mq_go Xs X.1 (N := 41) (M := 85) X.2.2.2.1 (X.2.2.2.2.1 _ hcl) hZ (X.2.2.2.2.1 _ tb_121) (g := F0 m pc ls (.int (nI 85) :: .int (nI 41) :: rest)) rfl (by rw [X.2.1]; exact hdg) rfl (by decide) (by decide) hcells hslots
  have e4 : cA = q 4 := Option.some.inj (fA.symm.trans (U.1.1.2 4 (q 4, .array .int) rfl).2)
  have e0 : cI = q 0 := Option.some.inj (fI.symm.trans (U.1.1.2 0 (q 0, .int) rfl).2)
  subst e4
  subst e0
  obtain ⟨f1, f2, -, -, f5, f6⟩ := mq_f (T.setVm vm₁) (q 4) (q 0) 41 85 41
  have hTh : (T.setVm vm₁).heap = H := hT
  have hTs : T.heap.size = H.size := by rw [hT]
  rw [hTh] at f1 f2 f5 f6
  generalize mq_s (T.setVm vm₁) (q 4) (q 0) 41 85 41 = F at X' step f1 f2 f5 f6
  have hsz := U.2.2.2.1.1
  have X2 := Stand.forget (locs := locs) X' (fun x hx => by
    obtain ⟨j, -, rfl⟩ := List.mem_map.mp hx
    show s.heap.size ≤ T.heap.size
    omega)
  rw [show cells + 1 + 41 = cells + 42 by omega, show slots + 41 + 41 * 85 = slots + 3526 by omega] at X2
  have hP0 : va_P D kz_cl ws F.heap := U.2.1.kept (fun k x hx => f5 x.1 ((U.2.1 k x hx).lt))
  have hlt : ∀ x ∈ ws, x.1 < H.size := fun x hx => by
    obtain ⟨k, hk⟩ := List.getElem?_of_mem hx
    exact (U.2.1 k x hk).lt
  have U1 : kz_U D q s A ((ws ++ [(H.size, .inl (q 4, 41, .inr (.inr (.inr (.inr (kz_so (fun i => H.size + 1 + i)))))))]) ++ kz_st q (fun i => H.size + 1 + i) (fun _ _ => 0) (List.range 41)) F.heap locs := by
    refine ⟨U.1, kz_P_iff.mpr (fun x hx => ?_), kz_D_iff.mpr ⟨?_, fun x hx => ?_⟩, ⟨by omega, fun x h1 h2 => (f5 x (by omega)).trans (U.2.2.2.1.2.1 x h1 h2), U.2.2.2.1.2.2⟩, U.2.2.2.2⟩
    · rcases List.mem_append.mp hx with hx | hx
      · rcases List.mem_append.mp hx with hx | hx
        · exact kz_P_iff.mp hP0 x hx
        · rw [List.mem_singleton.mp hx]
          exact f2
      · obtain ⟨i, hi, rfl⟩ := List.mem_map.mp hx
        exact f6 i (List.mem_range.mp hi)
    · rw [List.map_append, List.map_append]
      refine List.nodup_append.mpr ⟨List.nodup_append.mpr ⟨(kz_D_iff.mp U.2.2.1).1, by simp, fun a ha b hb => ?_⟩, ?_, fun a ha b hb => ?_⟩
      · obtain ⟨x, hx, rfl⟩ := List.mem_map.mp ha
        obtain ⟨y, hy, rfl⟩ := List.mem_map.mp hb
        rw [List.mem_singleton.mp hy]
        have := hlt x hx
        show x.1 ≠ H.size
        omega
      · rw [List.map_map]
        exact kz_ndR (H.size + 1) 41
      · obtain ⟨y, hy, rfl⟩ := List.mem_map.mp hb
        obtain ⟨i, hi, rfl⟩ := List.mem_map.mp hy
        show a ≠ H.size + 1 + i
        rcases List.mem_append.mp ha with ha | ha
        · obtain ⟨x, hx, rfl⟩ := List.mem_map.mp ha
          have := hlt x hx
          omega
        · obtain ⟨x, hx, rfl⟩ := List.mem_map.mp ha
          rw [List.mem_singleton.mp hx]
          show H.size ≠ H.size + 1 + i
          omega
    · rcases List.mem_append.mp hx with hx | hx
      · rcases List.mem_append.mp hx with hx | hx
        · exact (kz_D_iff.mp U.2.2.1).2 x hx
        · rw [List.mem_singleton.mp hx]
          exact U.2.2.2.2 _ hsz
      · obtain ⟨i, hi, rfl⟩ := List.mem_map.mp hx
        exact U.2.2.2.2 _ (by show s.heap.size ≤ H.size + 1 + i; omega)
  obtain ⟨t, a1, b1⟩ := kk H.size (fun i => H.size + 1 + i) F.heap U1 F rfl X2
  refine ⟨t, step t ?_, b1⟩
  rw [hTs]
  exact a1
