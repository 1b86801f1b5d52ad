/-! the machine's maker: its 41 rows -/
theorem va_AOA.moved {ty : FieldType} {u U : State} (hvm : u.vm.Alike U.vm) (h : va_AOA ty u) : va_AOA ty U := by
  obtain ⟨comp, c, k, h1, h2, h3, h4, h5⟩ := arrayOverA_spec h
  obtain ⟨k', hk', he⟩ := hvm.2.2 _ _ h3
  have hi : (U.vm.classes.findIdx? fun (x : Class) => match x.kind with | .array component _ => component == comp | _ => false) = some c := by
    rw [hvm.findIdx?_eq _ (fun _ => rfl)]
    exact h2
  have hkind : k'.kind = .array comp (.array ty) := by rw [he]; exact h4
  have f1 : U.vm.findClass (FieldType.array ty).toString = some comp := by rw [hvm.findClass]; exact h1
  have f2 : U.vm.findClass ("[" ++ (FieldType.array ty).toString) = some c := by rw [hvm.findClass]; exact h5
  unfold va_AOA Cond.before Cond.holds
  simp only [Cond.value]
  rw [f1, Option.bind_some]
  refine (congrArg (fun o : Option Nat => (o.bind (fun c => (U.vm.classes[c]?).map fun (k : Class) => match k.kind with | .array _ t => decide (t = FieldType.array ty) && decide (U.vm.findClass ("[" ++ (FieldType.array ty).toString) = some c) | _ => false) == some true)) hi).trans ?_
  simp [hk', hkind, f2]

theorem va_AOA.same {ty : FieldType} {u U : State} (hv : U.vm = u.vm) (h : va_AOA ty u) : va_AOA ty U := va_AOA.moved (by rw [hv]; exact Vm.Alike.refl _) h

set_option maxHeartbeats 4000000 in
set_option maxRecDepth 100000 in
theorem cm_Mc_init (l : Launch) (D : va_G) (q : Nat → ClassId) (h : Nat) : kz_Mn (S := Nat × (Nat → Nat)) l ky_Mc_init kb_Mc_init 1 1 42 3526 D q (fun _ U => va_AOA .int U) [.ref h] [(h, .inr (1, [.null]))] (fun _ => True) (fun u => [(h, .inr (1, [.ref u.1])), (u.1, .inl (q 4, 41, .inr (.inr (.inr (.inr (kz_so u.2))))))] ++ kz_st q u.2 (fun _ _ => 0) (List.range 41)) := by
  intro sz_
  refine kz_goN (by decide +kernel) (Nat.le_of_ble_eq_true rfl) rfl ?_
  intro p e s m below meth c ls args A Q H locs hQ hA hH hsz X hin hZ U hl
  have hx := X.1
  have hb := X.2.1
  have hl : lv_has ls 1 [(0, .ref h)] := hl
  refine lv_aload_n hx hb kd_Mc_init_0 rfl (lv_at hl 0 rfl) ?_
  refine kz_oi X hl.1 tb_186 (Nat.le_of_ble_eq_true rfl) (Nat.le_of_ble_eq_true rfl) kd_Mc_init_1 ?_
  refine lv_aload_n hx hb kd_Mc_init_4 rfl (lv_at hl 0 rfl) ?_
  refine kz_bp X 41 kd_Mc_init_5 (by decide) ?_
  refine kz_bp X 85 kd_Mc_init_7 (by decide) ?_
  refine kz_mna X U hZ tb_187 (Nat.le_of_ble_eq_true rfl) (Nat.le_of_ble_eq_true rfl) kd_Mc_init_9 (fun a r H U => ?_)
  have U : kz_U D q s A ([(h, .inr (1, [.null])), (a, .inl (q 4, 41, .inr (.inr (.inr (.inr (kz_so r))))))] ++ kz_st q r (fun _ _ => 0) (List.range 41)) H locs := U
  refine kpf_Mc_11 X hin U 0 rfl (Nat.le_of_ble_eq_true rfl) kd_Mc_init_13 (fun H locs U => ?_)
  have U : kz_U D q s A ([(h, .inr (1, [.ref a])), (a, .inl (q 4, 41, .inr (.inr (.inr (.inr (kz_so r))))))] ++ kz_st q r (fun _ _ => 0) (List.range 41)) H locs := U
  exact kz_evN hQ hA X U (a, r) rfl trivial kd_Mc_init_16
