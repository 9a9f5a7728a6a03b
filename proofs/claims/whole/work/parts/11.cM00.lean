theorem dX5_in_0 : decode cX5_in 0 = .ok (.iload_n 0, 1) := by decide +kernel
theorem dX5_in_1 : decode cX5_in 1 = .ok (.iload_n 1, 1) := by decide +kernel
theorem dX5_in_2 : decode cX5_in 2 = .ok (.if_icmp .lt 12, 3) := by decide +kernel
theorem dX5_in_5 : decode cX5_in 5 = .ok (.iload_n 0, 1) := by decide +kernel
theorem dX5_in_6 : decode cX5_in 6 = .ok (.iload_n 2, 1) := by decide +kernel
theorem dX5_in_7 : decode cX5_in 7 = .ok (.if_icmp .gt 7, 3) := by decide +kernel
theorem dX5_in_10 : decode cX5_in 10 = .ok (.iconst 1, 1) := by decide +kernel
theorem dX5_in_11 : decode cX5_in 11 = .ok (.goto 4, 3) := by decide +kernel
theorem dX5_in_14 : decode cX5_in 14 = .ok (.iconst 0, 1) := by decide +kernel
theorem dX5_in_15 : decode cX5_in 15 = .ok (.ireturn, 1) := by decide +kernel
set_option maxHeartbeats 4000000 in
set_option maxRecDepth 100000 in
theorem c_X5_in (l : Launch) (D : va_G) (cI cC cO : ClassId) (x0 x1 x2 : Int32) (res : Int32) (sz : Nat) (h : F_X5_in x0 x1 x2 = some res) : Met l yX5_in (Cond.code yX5_in cX5_in 3 (Option.some Jvm.ClassFile.FieldType.boolean) :: lw_g) ({ frames := 0, cells := 0, slots := 0, locals := 0 } : Room) (va_Pc [.int x0, .int x1, .int x2] (pS D cI cC cO sz ([] : va_W))) (QI D cI cC cO (va_A ([] : va_W) sz) ([] : va_W) res) 0 0 (va_A ([] : va_W) sz) := by
  refine Met.ofW (cc := cX5_in) (maxL := 3) (ret := (Option.some Jvm.ClassFile.FieldType.boolean)) (by decide) rfl ?_
  intro p e s m args below meth c s₁ B hml hv
  obtain ⟨rfl, rfl, hP, hK, hD0, hN⟩ := hv
  have hx := B.exec
  have hb := B.bytes
  have hr := B.returns
  have ht : ∀ w ∈ lw_g, w.before ([.int x0, .int x1, .int x2] : List Value).toArray s = true := fun w hw => atoms_spec (ws := Cond.code yX5_in cX5_in 3 (Option.some Jvm.ClassFile.FieldType.boolean) :: lw_g) B.pre w (List.mem_cons_of_mem _ hw)
  have hown : s.vm.findClass RX5 = some m.cls := findClass_of_methodNamed B.named
  have hlocks := B.notSynchronized
  have hD := hD0.self (sz := s.heap.size)
  generalize hAe : va_A ([] : va_W) s.heap.size = A at hD ⊢
  have hA : ∀ q : Nat, s.heap.size ≤ q → A q := fun q hq => by rw [← hAe]; exact Or.inr hq
  have hS : va_S A s.heap s.heap [] := va_S.rf
  have hl := lv_entry ([.int x0, .int x1, .int x2]) (n := 3) (Nat.le_of_ble_eq_true rfl)
  rw [lg_entry_eq]
  generalize (lg_sl ([.int x0, .int x1, .int x2]) ++ List.replicate (3 - (lg_sl ([.int x0, .int x1, .int x2])).length) Slot.unset).toArray = ls at hl ⊢
  have hl : lv_has ls 3 [(0, .int x0), (1, .int x1), (2, .int x2)] := hl
  unfold F_X5_in at h
  refine lv_iload_n hx hb dX5_in_0 rfl (lv_at hl 0 rfl) ?_
  refine lv_iload_n hx hb dX5_in_1 rfl (lv_at hl 1 rfl) ?_
  refine lv_icmp_lt (tgt := 14) hx hb dX5_in_2 (by decide) (fun c1 => ?_) (fun c1 => ?_)
  · replace h := fp c1 h
    refine lv_iconst (v := (0 : Int32)) hx hb dX5_in_14 (by decide) ?_
    cases h
    exact rt_z (v := (0 : Int32)) hx hb hr rfl hlocks hS hP hK hD dX5_in_15
  · replace h := fn c1 h
    refine lv_iload_n hx hb dX5_in_5 rfl (lv_at hl 0 rfl) ?_
    refine lv_iload_n hx hb dX5_in_6 rfl (lv_at hl 2 rfl) ?_
    refine lv_icmp_gt (tgt := 14) hx hb dX5_in_7 (by decide) (fun c2 => ?_) (fun c2 => ?_)
    · replace h := fp c2 h
      refine lv_iconst (v := (0 : Int32)) hx hb dX5_in_14 (by decide) ?_
      cases h
      exact rt_z (v := (0 : Int32)) hx hb hr rfl hlocks hS hP hK hD dX5_in_15
    · replace h := fn c2 h
      refine lv_iconst (v := (1 : Int32)) hx hb dX5_in_10 (by decide) ?_
      refine lv_goto (tgt := 15) hx hb dX5_in_11 (by decide) ?_
      cases h
      exact rt_z (v := (1 : Int32)) hx hb hr rfl hlocks hS hP hK hD dX5_in_15
theorem dX5_asIs_0 : decode cX5_asIs 0 = .ok (.aload_n 0, 1) := by decide +kernel
theorem dX5_asIs_1 : decode cX5_asIs 1 = .ok (.iconst (-1), 1) := by decide +kernel
theorem dX5_asIs_2 : decode cX5_asIs 2 = .ok (.putfield 50, 3) := by decide +kernel
theorem dX5_asIs_5 : decode cX5_asIs 5 = .ok (.aload_n 0, 1) := by decide +kernel
theorem dX5_asIs_6 : decode cX5_asIs 6 = .ok (.iconst (-1), 1) := by decide +kernel
theorem dX5_asIs_7 : decode cX5_asIs 7 = .ok (.putfield 54, 3) := by decide +kernel
theorem dX5_asIs_10 : decode cX5_asIs 10 = .ok (.aload_n 0, 1) := by decide +kernel
theorem dX5_asIs_11 : decode cX5_asIs 11 = .ok (.iconst (-1), 1) := by decide +kernel
theorem dX5_asIs_12 : decode cX5_asIs 12 = .ok (.putfield 57, 3) := by decide +kernel
theorem dX5_asIs_15 : decode cX5_asIs 15 = .ok (.aload_n 0, 1) := by decide +kernel
theorem dX5_asIs_16 : decode cX5_asIs 16 = .ok (.iconst (-1), 1) := by decide +kernel
theorem dX5_asIs_17 : decode cX5_asIs 17 = .ok (.putfield 60, 3) := by decide +kernel
theorem dX5_asIs_20 : decode cX5_asIs 20 = .ok (.return_, 1) := by decide +kernel
set_option maxHeartbeats 4000000 in
set_option maxRecDepth 100000 in
theorem c_X5_asIs (l : Launch) (D : va_G) (cI cC cO : ClassId) (a : Nat → Nat) (M : Mm) (res : Mm) (sz : Nat) (h : F_X5_asIs M = some res) : Met l yX5_asIs (Cond.code yX5_asIs cX5_asIs 1 (Option.none : Option Jvm.ClassFile.FieldType) :: lw_g) ({ frames := 0, cells := 0, slots := 0, locals := 0 } : Room) (va_Pc [.ref (a 0)] (pS D cI cC cO sz (wX5 a cI cC cO M))) (QV D cI cC cO (va_A (wX5 a cI cC cO M) sz) (wX5 a cI cC cO res)) 0 0 (va_A (wX5 a cI cC cO M) sz) := by
  refine Met.ofW (cc := cX5_asIs) (maxL := 1) (ret := (Option.none : Option Jvm.ClassFile.FieldType)) (by decide) rfl ?_
  intro p e s m args below meth c s₁ B hml hv
  obtain ⟨rfl, rfl, hP, hK, hD0, hN⟩ := hv
  have hx := B.exec
  have hb := B.bytes
  have hr := B.returns
  have ht : ∀ w ∈ lw_g, w.before ([.ref (a 0)] : List Value).toArray s = true := fun w hw => atoms_spec (ws := Cond.code yX5_asIs cX5_asIs 1 (Option.none : Option Jvm.ClassFile.FieldType) :: lw_g) B.pre w (List.mem_cons_of_mem _ hw)
  have hown : s.vm.findClass RX5 = some m.cls := findClass_of_methodNamed B.named
  have hlocks := B.notSynchronized
  have hD := hD0.self (sz := s.heap.size)
  generalize hAe : va_A (wX5 a cI cC cO M) s.heap.size = A at hD ⊢
  have hA : ∀ q : Nat, s.heap.size ≤ q → A q := fun q hq => by rw [← hAe]; exact Or.inr hq
  have hS : va_S A s.heap s.heap [] := va_S.rf
  have hl := lv_entry ([.ref (a 0)]) (n := 1) (Nat.le_of_ble_eq_true rfl)
  rw [lg_entry_eq]
  generalize (lg_sl ([.ref (a 0)]) ++ List.replicate (1 - (lg_sl ([.ref (a 0)])).length) Slot.unset).toArray = ls at hl ⊢
  have hl : lv_has ls 1 [(0, .ref (a 0))] := hl
  unfold F_X5_asIs at h
  refine lv_aload_n hx hb dX5_asIs_0 rfl (lv_at hl 0 rfl) ?_
  refine lv_iconst (v := (-1 : Int32)) hx hb dX5_asIs_1 (by decide) ?_
  refine va_put (D := D) (ci := 5) (v := .int (-1 : Int32)) (ty := .int) (C := RX5) (T := TX5) (N := 23) hx hb ht i_X5 tyX5 tyX5_ok nmX5 hown hK hP hD hS 0 rfl rfl 19 (by decide) (ht _ wd_555) (fun _ h9 => h9) rfl (by decide +kernel) rfl rfl (Nat.le_of_ble_eq_true rfl) dX5_asIs_2 (fun H locs hP hD hS => ?_)
  obtain ⟨M1, e2, h⟩ := sv_ok h
  have hP : va_P D classes (wX5 a cI cC cO M1) H := by rw [← e2]; exact hP
  have hD : va_D A (wX5 a cI cC cO M1) := by rw [← e2]; exact hD
  refine lv_aload_n hx hb dX5_asIs_5 rfl (lv_at hl 0 rfl) ?_
  refine lv_iconst (v := (-1 : Int32)) hx hb dX5_asIs_6 (by decide) ?_
  refine va_put (D := D) (ci := 5) (v := .int (-1 : Int32)) (ty := .int) (C := RX5) (T := TX5) (N := 23) hx hb ht i_X5 tyX5 tyX5_ok nmX5 hown hK hP hD hS 0 rfl rfl 20 (by decide) (ht _ wd_556) (fun _ h9 => h9) rfl (by decide +kernel) rfl rfl (Nat.le_of_ble_eq_true rfl) dX5_asIs_7 (fun H locs hP hD hS => ?_)
  obtain ⟨M3, e4, h⟩ := sv_ok h
  have hP : va_P D classes (wX5 a cI cC cO M3) H := by rw [← e4]; exact hP
  have hD : va_D A (wX5 a cI cC cO M3) := by rw [← e4]; exact hD
  refine lv_aload_n hx hb dX5_asIs_10 rfl (lv_at hl 0 rfl) ?_
  refine lv_iconst (v := (-1 : Int32)) hx hb dX5_asIs_11 (by decide) ?_
  refine va_put (D := D) (ci := 5) (v := .int (-1 : Int32)) (ty := .int) (C := RX5) (T := TX5) (N := 23) hx hb ht i_X5 tyX5 tyX5_ok nmX5 hown hK hP hD hS 0 rfl rfl 21 (by decide) (ht _ wd_557) (fun _ h9 => h9) rfl (by decide +kernel) rfl rfl (Nat.le_of_ble_eq_true rfl) dX5_asIs_12 (fun H locs hP hD hS => ?_)
  obtain ⟨M5, e6, h⟩ := sv_ok h
  have hP : va_P D classes (wX5 a cI cC cO M5) H := by rw [← e6]; exact hP
  have hD : va_D A (wX5 a cI cC cO M5) := by rw [← e6]; exact hD
  refine lv_aload_n hx hb dX5_asIs_15 rfl (lv_at hl 0 rfl) ?_
  refine lv_iconst (v := (-1 : Int32)) hx hb dX5_asIs_16 (by decide) ?_
  refine va_put (D := D) (ci := 5) (v := .int (-1 : Int32)) (ty := .int) (C := RX5) (T := TX5) (N := 23) hx hb ht i_X5 tyX5 tyX5_ok nmX5 hown hK hP hD hS 0 rfl rfl 22 (by decide) (ht _ wd_558) (fun _ h9 => h9) rfl (by decide +kernel) rfl rfl (Nat.le_of_ble_eq_true rfl) dX5_asIs_17 (fun H locs hP hD hS => ?_)
  obtain ⟨M7, e8, h⟩ := sv_ok h
  have hP : va_P D classes (wX5 a cI cC cO M7) H := by rw [← e8]; exact hP
  have hD : va_D A (wX5 a cI cC cO M7) := by rw [← e8]; exact hD
  cases h
  exact rt_v hx hb hr hlocks hS hP hK hD dX5_asIs_20
theorem dX5_isPlace_0 : decode cX5_isPlace 0 = .ok (.iload_n 1, 1) := by decide +kernel
theorem dX5_isPlace_1 : decode cX5_isPlace 1 = .ok (.iconst 0, 1) := by decide +kernel
theorem dX5_isPlace_2 : decode cX5_isPlace 2 = .ok (.aload_n 0, 1) := by decide +kernel
theorem dX5_isPlace_3 : decode cX5_isPlace 3 = .ok (.getfield 7, 3) := by decide +kernel
theorem dX5_isPlace_6 : decode cX5_isPlace 6 = .ok (.iconst 0, 1) := by decide +kernel
theorem dX5_isPlace_7 : decode cX5_isPlace 7 = .ok (.iaload, 1) := by decide +kernel
theorem dX5_isPlace_8 : decode cX5_isPlace 8 = .ok (.iconst 1, 1) := by decide +kernel
theorem dX5_isPlace_9 : decode cX5_isPlace 9 = .ok (.isub, 1) := by decide +kernel
theorem dX5_isPlace_10 : decode cX5_isPlace 10 = .ok (.invokestatic 63, 3) := by decide +kernel
theorem dX5_isPlace_13 : decode cX5_isPlace 13 = .ok (.ireturn, 1) := by decide +kernel
set_option maxHeartbeats 4000000 in
set_option maxRecDepth 100000 in
theorem c_X5_isPlace (l : Launch) (D : va_G) (cI cC cO : ClassId) (a : Nat → Nat) (M : Mm) (x1 : Int32) (res : Int32) (sz : Nat) (h : F_X5_isPlace M x1 = some res) : Met l yX5_isPlace (Cond.code yX5_isPlace cX5_isPlace 2 (Option.some Jvm.ClassFile.FieldType.boolean) :: lw_g) ({ frames := 1, cells := 0, slots := 0, locals := 22 } : Room) (va_Pc [.ref (a 0), .int x1] (pS D cI cC cO sz (wX5 a cI cC cO M))) (QI D cI cC cO (va_A (wX5 a cI cC cO M) sz) (wX5 a cI cC cO M) res) 0 0 (va_A (wX5 a cI cC cO M) sz) := by
  refine Met.ofW (cc := cX5_isPlace) (maxL := 2) (ret := (Option.some Jvm.ClassFile.FieldType.boolean)) (by decide) rfl ?_
  intro p e s m args below meth c s₁ B hml hv
  obtain ⟨rfl, rfl, hP, hK, hD0, hN⟩ := hv
  have hx := B.exec
  have hb := B.bytes
  have hr := B.returns
  have ht : ∀ w ∈ lw_g, w.before ([.ref (a 0), .int x1] : List Value).toArray s = true := fun w hw => atoms_spec (ws := Cond.code yX5_isPlace cX5_isPlace 2 (Option.some Jvm.ClassFile.FieldType.boolean) :: lw_g) B.pre w (List.mem_cons_of_mem _ hw)
  have hown : s.vm.findClass RX5 = some m.cls := findClass_of_methodNamed B.named
  have hlocks := B.notSynchronized
  have hD := hD0.self (sz := s.heap.size)
  generalize hAe : va_A (wX5 a cI cC cO M) s.heap.size = A at hD ⊢
  have hA : ∀ q : Nat, s.heap.size ≤ q → A q := fun q hq => by rw [← hAe]; exact Or.inr hq
  have hS : va_S A s.heap s.heap [] := va_S.rf
  have hl := lv_entry ([.ref (a 0), .int x1]) (n := 2) (Nat.le_of_ble_eq_true rfl)
  rw [lg_entry_eq]
  generalize (lg_sl ([.ref (a 0), .int x1]) ++ List.replicate (2 - (lg_sl ([.ref (a 0), .int x1])).length) Slot.unset).toArray = ls at hl ⊢
  have hl : lv_has ls 2 [(0, .ref (a 0)), (1, .int x1)] := hl
  unfold F_X5_isPlace at h
  refine lv_iload_n hx hb dX5_isPlace_0 rfl (lv_at hl 1 rfl) ?_
  refine lv_iconst (v := (0 : Int32)) hx hb dX5_isPlace_1 (by decide) ?_
  refine lv_aload_n hx hb dX5_isPlace_2 rfl (lv_at hl 0 rfl) ?_
  refine va_get (D := D) (ci := 5) (v := .ref (a 1)) (C := RX5) (T := TX5) (N := 23) hx hb ht i_X5 hown hK hP 0 rfl rfl 0 (by decide) (ht _ wd_536) (fun _ h9 => h9) rfl dX5_isPlace_3 ?_
  refine lv_iconst (v := (0 : Int32)) hx hb dX5_isPlace_6 (by decide) ?_
  obtain ⟨i1, h⟩ := ck_ok h
  refine va_iald hx hb hK hP 1 0 rfl rfl i1 dX5_isPlace_7 ?_
  refine lv_iconst (v := (1 : Int32)) hx hb dX5_isPlace_8 (by decide) ?_
  refine lv_isub hx hb dX5_isPlace_9 ?_
  obtain ⟨u2, e3, h⟩ := b1_ok h
  refine cl_Si (ws' := (wX5 a cI cC cO M)) ⟨hx, hb, hml, hown, ht⟩ (c_X5_in l D cI cC cO x1 (0 : Int32) ((M 0 (0 : Int32).toNatClampNeg) - (1 : Int32)) _ _ e3) (cwst 3 ht wd_612 wd_6 wd_610 wd_611 (by decide +kernel) rfl rfl ⟨Nat.le_of_ble_eq_true rfl, Nat.le_of_ble_eq_true rfl⟩) hK hP hD hS hA hN [] [0, 1, 2, 3, 4, 5, 6, 7, 8, 9, 10, 11, 12] [0, 1, 2, 3, 4, 5, 6, 7, 8, 9, 10, 11, 12] (by decide) rfl rfl (by decide) (by decide) rfl (by decide) rfl hl.1 rfl (Nat.le_of_ble_eq_true rfl) dX5_isPlace_10 ⟨Nat.le_of_ble_eq_true rfl, Nat.le_of_ble_eq_true rfl⟩ (fun H locs hP hD hS => ?_)
  obtain ⟨z4, h⟩ := cz_ok h
  cases h
  exact rt_z hx hb hr (nz z4) hlocks hS hP hK hD dX5_isPlace_13
theorem dX5_isPipe_0 : decode cX5_isPipe 0 = .ok (.iload_n 1, 1) := by decide +kernel
theorem dX5_isPipe_1 : decode cX5_isPipe 1 = .ok (.iconst 0, 1) := by decide +kernel
theorem dX5_isPipe_2 : decode cX5_isPipe 2 = .ok (.aload_n 0, 1) := by decide +kernel
theorem dX5_isPipe_3 : decode cX5_isPipe 3 = .ok (.getfield 7, 3) := by decide +kernel
theorem dX5_isPipe_6 : decode cX5_isPipe 6 = .ok (.iconst 1, 1) := by decide +kernel
theorem dX5_isPipe_7 : decode cX5_isPipe 7 = .ok (.iaload, 1) := by decide +kernel
theorem dX5_isPipe_8 : decode cX5_isPipe 8 = .ok (.iconst 1, 1) := by decide +kernel
theorem dX5_isPipe_9 : decode cX5_isPipe 9 = .ok (.isub, 1) := by decide +kernel
theorem dX5_isPipe_10 : decode cX5_isPipe 10 = .ok (.invokestatic 63, 3) := by decide +kernel
theorem dX5_isPipe_13 : decode cX5_isPipe 13 = .ok (.ireturn, 1) := by decide +kernel
set_option maxHeartbeats 4000000 in
set_option maxRecDepth 100000 in
theorem c_X5_isPipe (l : Launch) (D : va_G) (cI cC cO : ClassId) (a : Nat → Nat) (M : Mm) (x1 : Int32) (res : Int32) (sz : Nat) (h : F_X5_isPipe M x1 = some res) : Met l yX5_isPipe (Cond.code yX5_isPipe cX5_isPipe 2 (Option.some Jvm.ClassFile.FieldType.boolean) :: lw_g) ({ frames := 1, cells := 0, slots := 0, locals := 22 } : Room) (va_Pc [.ref (a 0), .int x1] (pS D cI cC cO sz (wX5 a cI cC cO M))) (QI D cI cC cO (va_A (wX5 a cI cC cO M) sz) (wX5 a cI cC cO M) res) 0 0 (va_A (wX5 a cI cC cO M) sz) := by
  refine Met.ofW (cc := cX5_isPipe) (maxL := 2) (ret := (Option.some Jvm.ClassFile.FieldType.boolean)) (by decide) rfl ?_
  intro p e s m args below meth c s₁ B hml hv
  obtain ⟨rfl, rfl, hP, hK, hD0, hN⟩ := hv
  have hx := B.exec
  have hb := B.bytes
  have hr := B.returns
  have ht : ∀ w ∈ lw_g, w.before ([.ref (a 0), .int x1] : List Value).toArray s = true := fun w hw => atoms_spec (ws := Cond.code yX5_isPipe cX5_isPipe 2 (Option.some Jvm.ClassFile.FieldType.boolean) :: lw_g) B.pre w (List.mem_cons_of_mem _ hw)
  have hown : s.vm.findClass RX5 = some m.cls := findClass_of_methodNamed B.named
  have hlocks := B.notSynchronized
  have hD := hD0.self (sz := s.heap.size)
  generalize hAe : va_A (wX5 a cI cC cO M) s.heap.size = A at hD ⊢
  have hA : ∀ q : Nat, s.heap.size ≤ q → A q := fun q hq => by rw [← hAe]; exact Or.inr hq
  have hS : va_S A s.heap s.heap [] := va_S.rf
  have hl := lv_entry ([.ref (a 0), .int x1]) (n := 2) (Nat.le_of_ble_eq_true rfl)
  rw [lg_entry_eq]
  generalize (lg_sl ([.ref (a 0), .int x1]) ++ List.replicate (2 - (lg_sl ([.ref (a 0), .int x1])).length) Slot.unset).toArray = ls at hl ⊢
  have hl : lv_has ls 2 [(0, .ref (a 0)), (1, .int x1)] := hl
  unfold F_X5_isPipe at h
  refine lv_iload_n hx hb dX5_isPipe_0 rfl (lv_at hl 1 rfl) ?_
  refine lv_iconst (v := (0 : Int32)) hx hb dX5_isPipe_1 (by decide) ?_
  refine lv_aload_n hx hb dX5_isPipe_2 rfl (lv_at hl 0 rfl) ?_
  refine va_get (D := D) (ci := 5) (v := .ref (a 1)) (C := RX5) (T := TX5) (N := 23) hx hb ht i_X5 hown hK hP 0 rfl rfl 0 (by decide) (ht _ wd_536) (fun _ h9 => h9) rfl dX5_isPipe_3 ?_
  refine lv_iconst (v := (1 : Int32)) hx hb dX5_isPipe_6 (by decide) ?_
  obtain ⟨i1, h⟩ := ck_ok h
  refine va_iald hx hb hK hP 1 0 rfl rfl i1 dX5_isPipe_7 ?_
  refine lv_iconst (v := (1 : Int32)) hx hb dX5_isPipe_8 (by decide) ?_
  refine lv_isub hx hb dX5_isPipe_9 ?_
  obtain ⟨u2, e3, h⟩ := b1_ok h
  refine cl_Si (ws' := (wX5 a cI cC cO M)) ⟨hx, hb, hml, hown, ht⟩ (c_X5_in l D cI cC cO x1 (0 : Int32) ((M 0 (1 : Int32).toNatClampNeg) - (1 : Int32)) _ _ e3) (cwst 3 ht wd_612 wd_6 wd_610 wd_611 (by decide +kernel) rfl rfl ⟨Nat.le_of_ble_eq_true rfl, Nat.le_of_ble_eq_true rfl⟩) hK hP hD hS hA hN [] [0, 1, 2, 3, 4, 5, 6, 7, 8, 9, 10, 11, 12] [0, 1, 2, 3, 4, 5, 6, 7, 8, 9, 10, 11, 12] (by decide) rfl rfl (by decide) (by decide) rfl (by decide) rfl hl.1 rfl (Nat.le_of_ble_eq_true rfl) dX5_isPipe_10 ⟨Nat.le_of_ble_eq_true rfl, Nat.le_of_ble_eq_true rfl⟩ (fun H locs hP hD hS => ?_)
  obtain ⟨z4, h⟩ := cz_ok h
  cases h
  exact rt_z hx hb hr (nz z4) hlocks hS hP hK hD dX5_isPipe_13
theorem dX5_pi_0 : decode cX5_pi 0 = .ok (.aload_n 0, 1) := by decide +kernel
theorem dX5_pi_1 : decode cX5_pi 1 = .ok (.getfield 7, 3) := by decide +kernel
theorem dX5_pi_4 : decode cX5_pi 4 = .ok (.bipush 14, 2) := by decide +kernel
theorem dX5_pi_6 : decode cX5_pi 6 = .ok (.bipush 6, 2) := by decide +kernel
theorem dX5_pi_8 : decode cX5_pi 8 = .ok (.iload_n 1, 1) := by decide +kernel
theorem dX5_pi_9 : decode cX5_pi 9 = .ok (.imul, 1) := by decide +kernel
theorem dX5_pi_10 : decode cX5_pi 10 = .ok (.iadd, 1) := by decide +kernel
theorem dX5_pi_11 : decode cX5_pi 11 = .ok (.iload_n 2, 1) := by decide +kernel
theorem dX5_pi_12 : decode cX5_pi 12 = .ok (.iadd, 1) := by decide +kernel
theorem dX5_pi_13 : decode cX5_pi 13 = .ok (.iaload, 1) := by decide +kernel
theorem dX5_pi_14 : decode cX5_pi 14 = .ok (.ireturn, 1) := by decide +kernel
set_option maxHeartbeats 4000000 in
set_option maxRecDepth 100000 in
theorem c_X5_pi (l : Launch) (D : va_G) (cI cC cO : ClassId) (a : Nat → Nat) (M : Mm) (x1 x2 : Int32) (res : Int32) (sz : Nat) (h : F_X5_pi M x1 x2 = some res) : Met l yX5_pi (Cond.code yX5_pi cX5_pi 3 (Option.some Jvm.ClassFile.FieldType.int) :: lw_g) ({ frames := 0, cells := 0, slots := 0, locals := 0 } : Room) (va_Pc [.ref (a 0), .int x1, .int x2] (pS D cI cC cO sz (wX5 a cI cC cO M))) (QI D cI cC cO (va_A (wX5 a cI cC cO M) sz) (wX5 a cI cC cO M) res) 0 0 (va_A (wX5 a cI cC cO M) sz) := by
  refine Met.ofW (cc := cX5_pi) (maxL := 3) (ret := (Option.some Jvm.ClassFile.FieldType.int)) (by decide) rfl ?_
  intro p e s m args below meth c s₁ B hml hv
  obtain ⟨rfl, rfl, hP, hK, hD0, hN⟩ := hv
  have hx := B.exec
  have hb := B.bytes
  have hr := B.returns
  have ht : ∀ w ∈ lw_g, w.before ([.ref (a 0), .int x1, .int x2] : List Value).toArray s = true := fun w hw => atoms_spec (ws := Cond.code yX5_pi cX5_pi 3 (Option.some Jvm.ClassFile.FieldType.int) :: lw_g) B.pre w (List.mem_cons_of_mem _ hw)
  have hown : s.vm.findClass RX5 = some m.cls := findClass_of_methodNamed B.named
  have hlocks := B.notSynchronized
  have hD := hD0.self (sz := s.heap.size)
  generalize hAe : va_A (wX5 a cI cC cO M) s.heap.size = A at hD ⊢
  have hA : ∀ q : Nat, s.heap.size ≤ q → A q := fun q hq => by rw [← hAe]; exact Or.inr hq
  have hS : va_S A s.heap s.heap [] := va_S.rf
  have hl := lv_entry ([.ref (a 0), .int x1, .int x2]) (n := 3) (Nat.le_of_ble_eq_true rfl)
  rw [lg_entry_eq]
  generalize (lg_sl ([.ref (a 0), .int x1, .int x2]) ++ List.replicate (3 - (lg_sl ([.ref (a 0), .int x1, .int x2])).length) Slot.unset).toArray = ls at hl ⊢
  have hl : lv_has ls 3 [(0, .ref (a 0)), (1, .int x1), (2, .int x2)] := hl
  unfold F_X5_pi at h
  refine lv_aload_n hx hb dX5_pi_0 rfl (lv_at hl 0 rfl) ?_
  refine va_get (D := D) (ci := 5) (v := .ref (a 1)) (C := RX5) (T := TX5) (N := 23) hx hb ht i_X5 hown hK hP 0 rfl rfl 0 (by decide) (ht _ wd_536) (fun _ h9 => h9) rfl dX5_pi_1 ?_
  refine lv_bipush (v := (14 : Int32)) hx hb dX5_pi_4 (by decide) ?_
  refine lv_bipush (v := (6 : Int32)) hx hb dX5_pi_6 (by decide) ?_
  refine lv_iload_n hx hb dX5_pi_8 rfl (lv_at hl 1 rfl) ?_
  refine lv_imul hx hb dX5_pi_9 ?_
  refine lv_iadd hx hb dX5_pi_10 ?_
  refine lv_iload_n hx hb dX5_pi_11 rfl (lv_at hl 2 rfl) ?_
  refine lv_iadd hx hb dX5_pi_12 ?_
  obtain ⟨i1, h⟩ := ck_ok h
  refine va_iald hx hb hK hP 1 0 rfl rfl i1 dX5_pi_13 ?_
  cases h
  exact rt_i hx hb hr hlocks hS hP hK hD dX5_pi_14
theorem dX5_keeps_0 : decode cX5_keeps 0 = .ok (.iconst 0, 1) := by decide +kernel
theorem dX5_keeps_1 : decode cX5_keeps 1 = .ok (.istore_n 1, 1) := by decide +kernel
theorem dX5_keeps_2 : decode cX5_keeps 2 = .ok (.iload_n 1, 1) := by decide +kernel
theorem dX5_keeps_3 : decode cX5_keeps 3 = .ok (.bipush 74, 2) := by decide +kernel
theorem dX5_keeps_5 : decode cX5_keeps 5 = .ok (.if_icmp .ge 21, 3) := by decide +kernel
theorem dX5_keeps_8 : decode cX5_keeps 8 = .ok (.aload_n 0, 1) := by decide +kernel
theorem dX5_keeps_9 : decode cX5_keeps 9 = .ok (.getfield 16, 3) := by decide +kernel
theorem dX5_keeps_12 : decode cX5_keeps 12 = .ok (.iload_n 1, 1) := by decide +kernel
theorem dX5_keeps_13 : decode cX5_keeps 13 = .ok (.aload_n 0, 1) := by decide +kernel
theorem dX5_keeps_14 : decode cX5_keeps 14 = .ok (.getfield 7, 3) := by decide +kernel
theorem dX5_keeps_17 : decode cX5_keeps 17 = .ok (.iload_n 1, 1) := by decide +kernel
theorem dX5_keeps_18 : decode cX5_keeps 18 = .ok (.iaload, 1) := by decide +kernel
theorem dX5_keeps_19 : decode cX5_keeps 19 = .ok (.iastore, 1) := by decide +kernel
theorem dX5_keeps_20 : decode cX5_keeps 20 = .ok (.iinc 1 1, 3) := by decide +kernel
theorem dX5_keeps_23 : decode cX5_keeps 23 = .ok (.goto (-21), 3) := by decide +kernel
theorem dX5_keeps_26 : decode cX5_keeps 26 = .ok (.return_, 1) := by decide +kernel
set_option maxHeartbeats 4000000 in
set_option maxRecDepth 100000 in
theorem c_X5_keeps (l : Launch) (D : va_G) (cI cC cO : ClassId) (a : Nat → Nat) (M : Mm) (res : Mm) (sz : Nat) (h : F_X5_keeps M = some res) : Met l yX5_keeps (Cond.code yX5_keeps cX5_keeps 2 (Option.none : Option Jvm.ClassFile.FieldType) :: lw_g) ({ frames := 0, cells := 0, slots := 0, locals := 0 } : Room) (va_Pc [.ref (a 0)] (pS D cI cC cO sz (wX5 a cI cC cO M))) (QV D cI cC cO (va_A (wX5 a cI cC cO M) sz) (wX5 a cI cC cO res)) 0 0 (va_A (wX5 a cI cC cO M) sz) := by
  refine Met.ofW (cc := cX5_keeps) (maxL := 2) (ret := (Option.none : Option Jvm.ClassFile.FieldType)) (by decide) rfl ?_
  intro p e s m args below meth c s₁ B hml hv
  obtain ⟨rfl, rfl, hP, hK, hD0, hN⟩ := hv
  have hx := B.exec
  have hb := B.bytes
  have hr := B.returns
  have ht : ∀ w ∈ lw_g, w.before ([.ref (a 0)] : List Value).toArray s = true := fun w hw => atoms_spec (ws := Cond.code yX5_keeps cX5_keeps 2 (Option.none : Option Jvm.ClassFile.FieldType) :: lw_g) B.pre w (List.mem_cons_of_mem _ hw)
  have hown : s.vm.findClass RX5 = some m.cls := findClass_of_methodNamed B.named
  have hlocks := B.notSynchronized
  have hD := hD0.self (sz := s.heap.size)
  generalize hAe : va_A (wX5 a cI cC cO M) s.heap.size = A at hD ⊢
  have hA : ∀ q : Nat, s.heap.size ≤ q → A q := fun q hq => by rw [← hAe]; exact Or.inr hq
  have hS : va_S A s.heap s.heap [] := va_S.rf
  have hl := lv_entry ([.ref (a 0)]) (n := 2) (Nat.le_of_ble_eq_true rfl)
  rw [lg_entry_eq]
  generalize (lg_sl ([.ref (a 0)]) ++ List.replicate (2 - (lg_sl ([.ref (a 0)])).length) Slot.unset).toArray = ls at hl ⊢
  have hl : lv_has ls 2 [(0, .ref (a 0))] := hl
  have w2 : ∀ (n2 : Nat) (M : Mm) (y1 : Int32) (H : Heap) (locs : List Loc) (ls : Array Slot), F_X5_keeps_2 n2 M y1 = some res → va_P D classes (wX5 a cI cC cO M) H → va_D A (wX5 a cI cC cO M) → va_S A s.heap H locs → lv_has ls 2 [(0, .ref (a 0)), (1, .int y1)] → W p l e ({ frames := 0, cells := 0, slots := 0, locals := 0 } : Room) s m ([.ref (a 0)] : List Value).toArray below meth c H locs 0 0 (MQ below (QV D cI cC cO A (wX5 a cI cC cO res)) ([.ref (a 0)] : List Value).toArray s 0 0 A) (F0 m 2 ls []) := by
    intro n2
    induction n2 with
    | zero => intro M y1 H locs ls h hP hD hS hl; exact absurd (show (none : Option (Mm)) = some res from h) (by simp)
    | succ n2 ih2 =>
      intro M y1 H locs ls h hP hD hS hl
      have h : F_X5_keepsB_2 (F_X5_keeps_2 n2) M y1 = some res := h
      unfold F_X5_keepsB_2 at h
      refine lv_iload_n hx hb dX5_keeps_2 rfl (lv_at hl 1 rfl) ?_
      refine lv_bipush (v := (74 : Int32)) hx hb dX5_keeps_3 (by decide) ?_
      refine lv_icmp_ge (tgt := 26) hx hb dX5_keeps_5 (by decide) (fun c1 => ?_) (fun c1 => ?_)
      · replace h := fp c1 h
        cases h
        exact rt_v hx hb hr hlocks hS hP hK hD dX5_keeps_26
      · replace h := fn c1 h
        refine lv_aload_n hx hb dX5_keeps_8 rfl (lv_at hl 0 rfl) ?_
        refine va_get (D := D) (ci := 5) (v := .ref (a 3)) (C := RX5) (T := TX5) (N := 23) hx hb ht i_X5 hown hK hP 0 rfl rfl 2 (by decide) (ht _ wd_538) (fun _ h9 => h9) rfl dX5_keeps_9 ?_
        refine lv_iload_n hx hb dX5_keeps_12 rfl (lv_at hl 1 rfl) ?_
        refine lv_aload_n hx hb dX5_keeps_13 rfl (lv_at hl 0 rfl) ?_
        refine va_get (D := D) (ci := 5) (v := .ref (a 1)) (C := RX5) (T := TX5) (N := 23) hx hb ht i_X5 hown hK hP 0 rfl rfl 0 (by decide) (ht _ wd_536) (fun _ h9 => h9) rfl dX5_keeps_14 ?_
        refine lv_iload_n hx hb dX5_keeps_17 rfl (lv_at hl 1 rfl) ?_
        obtain ⟨i2, h⟩ := ck_ok h
        refine va_iald hx hb hK hP 1 0 rfl rfl i2 dX5_keeps_18 ?_
        obtain ⟨i3, h⟩ := ck_ok h
        refine va_iast hx hb hK hP hD hS 3 0 rfl rfl i3 dX5_keeps_19 (fun H locs hP hD hS => ?_)
        obtain ⟨M4, e5, h⟩ := sv_ok h
        have hP : va_P D classes (wX5 a cI cC cO M4) H := by rw [← e5]; exact hP
        have hD : va_D A (wX5 a cI cC cO M4) := by rw [← e5]; exact hD
        refine lv_iinc (v := (y1 + 1)) (lv' := [(1, .int (y1 + 1)), (0, .ref (a 0))]) hx hb dX5_keeps_20 hl (k := 1) rfl rfl (by decide) rfl (fun ls hl => ?_)
        refine lv_goto (tgt := 2) hx hb dX5_keeps_23 (by decide) ?_
        exact ih2 M4 (y1 + 1) _ _ ls h hP hD hS (lv_sub hl [1, 0] rfl)
  unfold F_X5_keeps at h
  refine lv_iconst (v := (0 : Int32)) hx hb dX5_keeps_0 (by decide) ?_
  refine lv_istore_n (lv' := [(1, .int (0 : Int32)), (0, .ref (a 0))]) hx hb dX5_keeps_1 rfl hl (by decide) rfl (fun ls hl => ?_)
  exact w2 FU M (0 : Int32) _ _ ls h hP hD hS (lv_sub hl [1, 0] rfl)
theorem dX5_acted_0 : decode cX5_acted 0 = .ok (.iload_n 1, 1) := by decide +kernel
theorem dX5_acted_1 : decode cX5_acted 1 = .ok (.ldc 67, 2) := by decide +kernel
theorem dX5_acted_3 : decode cX5_acted 3 = .ok (.if_icmp .le 95, 3) := by decide +kernel
theorem dX5_acted_6 : decode cX5_acted 6 = .ok (.aload_n 0, 1) := by decide +kernel
theorem dX5_acted_7 : decode cX5_acted 7 = .ok (.getfield 68, 3) := by decide +kernel
theorem dX5_acted_10 : decode cX5_acted 10 = .ok (.iconst 4, 1) := by decide +kernel
theorem dX5_acted_11 : decode cX5_acted 11 = .ok (.if_icmp .ne 43, 3) := by decide +kernel
theorem dX5_acted_14 : decode cX5_acted 14 = .ok (.iconst 0, 1) := by decide +kernel
theorem dX5_acted_15 : decode cX5_acted 15 = .ok (.istore_n 2, 1) := by decide +kernel
theorem dX5_acted_16 : decode cX5_acted 16 = .ok (.iload_n 2, 1) := by decide +kernel
theorem dX5_acted_17 : decode cX5_acted 17 = .ok (.sipush 222, 3) := by decide +kernel
theorem dX5_acted_20 : decode cX5_acted 20 = .ok (.if_icmp .ge 24, 3) := by decide +kernel
theorem dX5_acted_23 : decode cX5_acted 23 = .ok (.aload_n 0, 1) := by decide +kernel
theorem dX5_acted_24 : decode cX5_acted 24 = .ok (.getfield 13, 3) := by decide +kernel
theorem dX5_acted_27 : decode cX5_acted 27 = .ok (.iload_n 2, 1) := by decide +kernel
theorem dX5_acted_28 : decode cX5_acted 28 = .ok (.aload_n 0, 1) := by decide +kernel
theorem dX5_acted_29 : decode cX5_acted 29 = .ok (.getfield 13, 3) := by decide +kernel
theorem dX5_acted_32 : decode cX5_acted 32 = .ok (.iload_n 2, 1) := by decide +kernel
theorem dX5_acted_33 : decode cX5_acted 33 = .ok (.bipush 74, 2) := by decide +kernel
theorem dX5_acted_35 : decode cX5_acted 35 = .ok (.iadd, 1) := by decide +kernel
theorem dX5_acted_36 : decode cX5_acted 36 = .ok (.iaload, 1) := by decide +kernel
theorem dX5_acted_37 : decode cX5_acted 37 = .ok (.iastore, 1) := by decide +kernel
theorem dX5_acted_38 : decode cX5_acted 38 = .ok (.iinc 2 1, 3) := by decide +kernel
theorem dX5_acted_41 : decode cX5_acted 41 = .ok (.goto (-25), 3) := by decide +kernel
theorem dX5_acted_44 : decode cX5_acted 44 = .ok (.aload_n 0, 1) := by decide +kernel
theorem dX5_acted_45 : decode cX5_acted 45 = .ok (.dup, 1) := by decide +kernel
theorem dX5_acted_46 : decode cX5_acted 46 = .ok (.getfield 68, 3) := by decide +kernel
theorem dX5_acted_49 : decode cX5_acted 49 = .ok (.iconst 1, 1) := by decide +kernel
theorem dX5_acted_50 : decode cX5_acted 50 = .ok (.isub, 1) := by decide +kernel
theorem dX5_acted_51 : decode cX5_acted 51 = .ok (.putfield 68, 3) := by decide +kernel
theorem dX5_acted_54 : decode cX5_acted 54 = .ok (.iconst 0, 1) := by decide +kernel
theorem dX5_acted_55 : decode cX5_acted 55 = .ok (.istore_n 2, 1) := by decide +kernel
theorem dX5_acted_56 : decode cX5_acted 56 = .ok (.iload_n 2, 1) := by decide +kernel
theorem dX5_acted_57 : decode cX5_acted 57 = .ok (.bipush 74, 2) := by decide +kernel
theorem dX5_acted_59 : decode cX5_acted 59 = .ok (.if_icmp .ge 29, 3) := by decide +kernel
theorem dX5_acted_62 : decode cX5_acted 62 = .ok (.aload_n 0, 1) := by decide +kernel
theorem dX5_acted_63 : decode cX5_acted 63 = .ok (.getfield 13, 3) := by decide +kernel
theorem dX5_acted_66 : decode cX5_acted 66 = .ok (.bipush 74, 2) := by decide +kernel
theorem dX5_acted_68 : decode cX5_acted 68 = .ok (.aload_n 0, 1) := by decide +kernel
theorem dX5_acted_69 : decode cX5_acted 69 = .ok (.getfield 68, 3) := by decide +kernel
theorem dX5_acted_72 : decode cX5_acted 72 = .ok (.imul, 1) := by decide +kernel
theorem dX5_acted_73 : decode cX5_acted 73 = .ok (.iload_n 2, 1) := by decide +kernel
theorem dX5_acted_74 : decode cX5_acted 74 = .ok (.iadd, 1) := by decide +kernel
theorem dX5_acted_75 : decode cX5_acted 75 = .ok (.aload_n 0, 1) := by decide +kernel
theorem dX5_acted_76 : decode cX5_acted 76 = .ok (.getfield 16, 3) := by decide +kernel
theorem dX5_acted_79 : decode cX5_acted 79 = .ok (.iload_n 2, 1) := by decide +kernel
theorem dX5_acted_80 : decode cX5_acted 80 = .ok (.iaload, 1) := by decide +kernel
theorem dX5_acted_81 : decode cX5_acted 81 = .ok (.iastore, 1) := by decide +kernel
theorem dX5_acted_82 : decode cX5_acted 82 = .ok (.iinc 2 1, 3) := by decide +kernel
theorem dX5_acted_85 : decode cX5_acted 85 = .ok (.goto (-29), 3) := by decide +kernel
theorem dX5_acted_88 : decode cX5_acted 88 = .ok (.aload_n 0, 1) := by decide +kernel
theorem dX5_acted_89 : decode cX5_acted 89 = .ok (.dup, 1) := by decide +kernel
theorem dX5_acted_90 : decode cX5_acted 90 = .ok (.getfield 68, 3) := by decide +kernel
theorem dX5_acted_93 : decode cX5_acted 93 = .ok (.iconst 1, 1) := by decide +kernel
theorem dX5_acted_94 : decode cX5_acted 94 = .ok (.iadd, 1) := by decide +kernel
theorem dX5_acted_95 : decode cX5_acted 95 = .ok (.putfield 68, 3) := by decide +kernel
theorem dX5_acted_98 : decode cX5_acted 98 = .ok (.iload_n 1, 1) := by decide +kernel
theorem dX5_acted_99 : decode cX5_acted 99 = .ok (.ireturn, 1) := by decide +kernel
set_option maxHeartbeats 4000000 in
set_option maxRecDepth 100000 in
theorem c_X5_acted (l : Launch) (D : va_G) (cI cC cO : ClassId) (a : Nat → Nat) (M : Mm) (x1 : Int32) (res : Int32 × Mm) (sz : Nat) (h : F_X5_acted M x1 = some res) : Met l yX5_acted (Cond.code yX5_acted cX5_acted 3 (Option.some Jvm.ClassFile.FieldType.int) :: lw_g) ({ frames := 0, cells := 0, slots := 0, locals := 0 } : Room) (va_Pc [.ref (a 0), .int x1] (pS D cI cC cO sz (wX5 a cI cC cO M))) (QI D cI cC cO (va_A (wX5 a cI cC cO M) sz) (wX5 a cI cC cO res.2) res.1) 0 0 (va_A (wX5 a cI cC cO M) sz) := by
  refine Met.ofW (cc := cX5_acted) (maxL := 3) (ret := (Option.some Jvm.ClassFile.FieldType.int)) (by decide) rfl ?_
  intro p e s m args below meth c s₁ B hml hv
  obtain ⟨rfl, rfl, hP, hK, hD0, hN⟩ := hv
  have hx := B.exec
  have hb := B.bytes
  have hr := B.returns
  have ht : ∀ w ∈ lw_g, w.before ([.ref (a 0), .int x1] : List Value).toArray s = true := fun w hw => atoms_spec (ws := Cond.code yX5_acted cX5_acted 3 (Option.some Jvm.ClassFile.FieldType.int) :: lw_g) B.pre w (List.mem_cons_of_mem _ hw)
  have hown : s.vm.findClass RX5 = some m.cls := findClass_of_methodNamed B.named
  have hlocks := B.notSynchronized
  have hD := hD0.self (sz := s.heap.size)
  generalize hAe : va_A (wX5 a cI cC cO M) s.heap.size = A at hD ⊢
  have hA : ∀ q : Nat, s.heap.size ≤ q → A q := fun q hq => by rw [← hAe]; exact Or.inr hq
  have hS : va_S A s.heap s.heap [] := va_S.rf
  have hl := lv_entry ([.ref (a 0), .int x1]) (n := 3) (Nat.le_of_ble_eq_true rfl)
  rw [lg_entry_eq]
  generalize (lg_sl ([.ref (a 0), .int x1]) ++ List.replicate (3 - (lg_sl ([.ref (a 0), .int x1])).length) Slot.unset).toArray = ls at hl ⊢
  have hl : lv_has ls 3 [(0, .ref (a 0)), (1, .int x1)] := hl
  have w56 : ∀ (n56 : Nat) (M : Mm) (y1 y2 : Int32) (H : Heap) (locs : List Loc) (ls : Array Slot), F_X5_acted_56 n56 M y1 y2 = some res → va_P D classes (wX5 a cI cC cO M) H → va_D A (wX5 a cI cC cO M) → va_S A s.heap H locs → lv_has ls 3 [(0, .ref (a 0)), (1, .int y1), (2, .int y2)] → W p l e ({ frames := 0, cells := 0, slots := 0, locals := 0 } : Room) s m ([.ref (a 0), .int x1] : List Value).toArray below meth c H locs 0 0 (MQ below (QI D cI cC cO A (wX5 a cI cC cO res.2) res.1) ([.ref (a 0), .int x1] : List Value).toArray s 0 0 A) (F0 m 56 ls []) := by
    intro n56
    induction n56 with
    | zero => intro M y1 y2 H locs ls h hP hD hS hl; exact absurd (show (none : Option (Int32 × Mm)) = some res from h) (by simp)
    | succ n56 ih56 =>
      intro M y1 y2 H locs ls h hP hD hS hl
      have h : F_X5_actedB_56 (F_X5_acted_56 n56) M y1 y2 = some res := h
      unfold F_X5_actedB_56 at h
      refine lv_iload_n hx hb dX5_acted_56 rfl (lv_at hl 2 rfl) ?_
      refine lv_bipush (v := (74 : Int32)) hx hb dX5_acted_57 (by decide) ?_
      refine lv_icmp_ge (tgt := 88) hx hb dX5_acted_59 (by decide) (fun c1 => ?_) (fun c1 => ?_)
      · replace h := fp c1 h
        refine lv_aload_n hx hb dX5_acted_88 rfl (lv_at hl 0 rfl) ?_
        refine lv_dup hx hb dX5_acted_89 rfl ?_
        refine va_get (D := D) (ci := 5) (v := .int (M 12 0)) (C := RX5) (T := TX5) (N := 23) hx hb ht i_X5 hown hK hP 0 rfl rfl 4 (by decide) (ht _ wd_540) (fun _ h9 => h9) rfl dX5_acted_90 ?_
        refine lv_iconst (v := (1 : Int32)) hx hb dX5_acted_93 (by decide) ?_
        refine lv_iadd hx hb dX5_acted_94 ?_
        refine va_put (D := D) (ci := 5) (v := .int ((M 12 0) + (1 : Int32))) (ty := .int) (C := RX5) (T := TX5) (N := 23) hx hb ht i_X5 tyX5 tyX5_ok nmX5 hown hK hP hD hS 0 rfl rfl 4 (by decide) (ht _ wd_540) (fun _ h9 => h9) rfl (by decide +kernel) rfl rfl (Nat.le_of_ble_eq_true rfl) dX5_acted_95 (fun H locs hP hD hS => ?_)
        obtain ⟨M2, e3, h⟩ := sv_ok h
        have hP : va_P D classes (wX5 a cI cC cO M2) H := by rw [← e3]; exact hP
        have hD : va_D A (wX5 a cI cC cO M2) := by rw [← e3]; exact hD
        refine lv_iload_n hx hb dX5_acted_98 rfl (lv_at hl 1 rfl) ?_
        cases h
        exact rt_i hx hb hr hlocks hS hP hK hD dX5_acted_99
      · replace h := fn c1 h
        refine lv_aload_n hx hb dX5_acted_62 rfl (lv_at hl 0 rfl) ?_
        refine va_get (D := D) (ci := 5) (v := .ref (a 2)) (C := RX5) (T := TX5) (N := 23) hx hb ht i_X5 hown hK hP 0 rfl rfl 1 (by decide) (ht _ wd_537) (fun _ h9 => h9) rfl dX5_acted_63 ?_
        refine lv_bipush (v := (74 : Int32)) hx hb dX5_acted_66 (by decide) ?_
        refine lv_aload_n hx hb dX5_acted_68 rfl (lv_at hl 0 rfl) ?_
        refine va_get (D := D) (ci := 5) (v := .int (M 12 0)) (C := RX5) (T := TX5) (N := 23) hx hb ht i_X5 hown hK hP 0 rfl rfl 4 (by decide) (ht _ wd_540) (fun _ h9 => h9) rfl dX5_acted_69 ?_
        refine lv_imul hx hb dX5_acted_72 ?_
        refine lv_iload_n hx hb dX5_acted_73 rfl (lv_at hl 2 rfl) ?_
        refine lv_iadd hx hb dX5_acted_74 ?_
        refine lv_aload_n hx hb dX5_acted_75 rfl (lv_at hl 0 rfl) ?_
        refine va_get (D := D) (ci := 5) (v := .ref (a 3)) (C := RX5) (T := TX5) (N := 23) hx hb ht i_X5 hown hK hP 0 rfl rfl 2 (by decide) (ht _ wd_538) (fun _ h9 => h9) rfl dX5_acted_76 ?_
        refine lv_iload_n hx hb dX5_acted_79 rfl (lv_at hl 2 rfl) ?_
        obtain ⟨i4, h⟩ := ck_ok h
        refine va_iald hx hb hK hP 3 0 rfl rfl i4 dX5_acted_80 ?_
        obtain ⟨i5, h⟩ := ck_ok h
        refine va_iast hx hb hK hP hD hS 2 0 rfl rfl i5 dX5_acted_81 (fun H locs hP hD hS => ?_)
        obtain ⟨M6, e7, h⟩ := sv_ok h
        have hP : va_P D classes (wX5 a cI cC cO M6) H := by rw [← e7]; exact hP
        have hD : va_D A (wX5 a cI cC cO M6) := by rw [← e7]; exact hD
        refine lv_iinc (v := (y2 + 1)) (lv' := [(2, .int (y2 + 1)), (0, .ref (a 0)), (1, .int y1)]) hx hb dX5_acted_82 hl (k := 2) rfl rfl (by decide) rfl (fun ls hl => ?_)
        refine lv_goto (tgt := 56) hx hb dX5_acted_85 (by decide) ?_
        exact ih56 M6 y1 (y2 + 1) _ _ ls h hP hD hS (lv_sub hl [1, 2, 0] rfl)
  have w16 : ∀ (n16 : Nat) (M : Mm) (y1 y2 : Int32) (H : Heap) (locs : List Loc) (ls : Array Slot), F_X5_acted_16 n16 M y1 y2 = some res → va_P D classes (wX5 a cI cC cO M) H → va_D A (wX5 a cI cC cO M) → va_S A s.heap H locs → lv_has ls 3 [(0, .ref (a 0)), (1, .int y1), (2, .int y2)] → W p l e ({ frames := 0, cells := 0, slots := 0, locals := 0 } : Room) s m ([.ref (a 0), .int x1] : List Value).toArray below meth c H locs 0 0 (MQ below (QI D cI cC cO A (wX5 a cI cC cO res.2) res.1) ([.ref (a 0), .int x1] : List Value).toArray s 0 0 A) (F0 m 16 ls []) := by
    intro n16
    induction n16 with
    | zero => intro M y1 y2 H locs ls h hP hD hS hl; exact absurd (show (none : Option (Int32 × Mm)) = some res from h) (by simp)
    | succ n16 ih16 =>
      intro M y1 y2 H locs ls h hP hD hS hl
      have h : F_X5_actedB_16 (F_X5_acted_16 n16) M y1 y2 = some res := h
      unfold F_X5_actedB_16 at h
      refine lv_iload_n hx hb dX5_acted_16 rfl (lv_at hl 2 rfl) ?_
      refine lv_sipush (v := (222 : Int32)) hx hb dX5_acted_17 (by decide) ?_
      refine lv_icmp_ge (tgt := 44) hx hb dX5_acted_20 (by decide) (fun c1 => ?_) (fun c1 => ?_)
      · replace h := fp c1 h
        refine lv_aload_n hx hb dX5_acted_44 rfl (lv_at hl 0 rfl) ?_
        refine lv_dup hx hb dX5_acted_45 rfl ?_
        refine va_get (D := D) (ci := 5) (v := .int (M 12 0)) (C := RX5) (T := TX5) (N := 23) hx hb ht i_X5 hown hK hP 0 rfl rfl 4 (by decide) (ht _ wd_540) (fun _ h9 => h9) rfl dX5_acted_46 ?_
        refine lv_iconst (v := (1 : Int32)) hx hb dX5_acted_49 (by decide) ?_
        refine lv_isub hx hb dX5_acted_50 ?_
        refine va_put (D := D) (ci := 5) (v := .int ((M 12 0) - (1 : Int32))) (ty := .int) (C := RX5) (T := TX5) (N := 23) hx hb ht i_X5 tyX5 tyX5_ok nmX5 hown hK hP hD hS 0 rfl rfl 4 (by decide) (ht _ wd_540) (fun _ h9 => h9) rfl (by decide +kernel) rfl rfl (Nat.le_of_ble_eq_true rfl) dX5_acted_51 (fun H locs hP hD hS => ?_)
        obtain ⟨M2, e3, h⟩ := sv_ok h
        have hP : va_P D classes (wX5 a cI cC cO M2) H := by rw [← e3]; exact hP
        have hD : va_D A (wX5 a cI cC cO M2) := by rw [← e3]; exact hD
        refine lv_iconst (v := (0 : Int32)) hx hb dX5_acted_54 (by decide) ?_
        refine lv_istore_n (lv' := [(2, .int (0 : Int32)), (0, .ref (a 0)), (1, .int y1)]) hx hb dX5_acted_55 rfl hl (by decide) rfl (fun ls hl => ?_)
        exact w56 FU M2 y1 (0 : Int32) _ _ ls h hP hD hS (lv_sub hl [1, 2, 0] rfl)
      · replace h := fn c1 h
        refine lv_aload_n hx hb dX5_acted_23 rfl (lv_at hl 0 rfl) ?_
        refine va_get (D := D) (ci := 5) (v := .ref (a 2)) (C := RX5) (T := TX5) (N := 23) hx hb ht i_X5 hown hK hP 0 rfl rfl 1 (by decide) (ht _ wd_537) (fun _ h9 => h9) rfl dX5_acted_24 ?_
        refine lv_iload_n hx hb dX5_acted_27 rfl (lv_at hl 2 rfl) ?_
        refine lv_aload_n hx hb dX5_acted_28 rfl (lv_at hl 0 rfl) ?_
        refine va_get (D := D) (ci := 5) (v := .ref (a 2)) (C := RX5) (T := TX5) (N := 23) hx hb ht i_X5 hown hK hP 0 rfl rfl 1 (by decide) (ht _ wd_537) (fun _ h9 => h9) rfl dX5_acted_29 ?_
        refine lv_iload_n hx hb dX5_acted_32 rfl (lv_at hl 2 rfl) ?_
        refine lv_bipush (v := (74 : Int32)) hx hb dX5_acted_33 (by decide) ?_
        refine lv_iadd hx hb dX5_acted_35 ?_
        obtain ⟨i4, h⟩ := ck_ok h
        refine va_iald hx hb hK hP 2 0 rfl rfl i4 dX5_acted_36 ?_
        obtain ⟨i5, h⟩ := ck_ok h
        refine va_iast hx hb hK hP hD hS 2 0 rfl rfl i5 dX5_acted_37 (fun H locs hP hD hS => ?_)
        obtain ⟨M6, e7, h⟩ := sv_ok h
        have hP : va_P D classes (wX5 a cI cC cO M6) H := by rw [← e7]; exact hP
        have hD : va_D A (wX5 a cI cC cO M6) := by rw [← e7]; exact hD
        refine lv_iinc (v := (y2 + 1)) (lv' := [(2, .int (y2 + 1)), (0, .ref (a 0)), (1, .int y1)]) hx hb dX5_acted_38 hl (k := 2) rfl rfl (by decide) rfl (fun ls hl => ?_)
        refine lv_goto (tgt := 16) hx hb dX5_acted_41 (by decide) ?_
        exact ih16 M6 y1 (y2 + 1) _ _ ls h hP hD hS (lv_sub hl [1, 2, 0] rfl)
  unfold F_X5_acted at h
  refine lv_iload_n hx hb dX5_acted_0 rfl (lv_at hl 1 rfl) ?_
  refine lv_ldc hx hb hown (ht _ wd_613) dX5_acted_1 ?_
  refine lv_icmp_le (tgt := 98) hx hb dX5_acted_3 (by decide) (fun c1 => ?_) (fun c1 => ?_)
  · replace h := fp c1 h
    refine lv_iload_n hx hb dX5_acted_98 rfl (lv_at hl 1 rfl) ?_
    cases h
    exact rt_i hx hb hr hlocks hS hP hK hD dX5_acted_99
  · replace h := fn c1 h
    refine lv_aload_n hx hb dX5_acted_6 rfl (lv_at hl 0 rfl) ?_
    refine va_get (D := D) (ci := 5) (v := .int (M 12 0)) (C := RX5) (T := TX5) (N := 23) hx hb ht i_X5 hown hK hP 0 rfl rfl 4 (by decide) (ht _ wd_540) (fun _ h9 => h9) rfl dX5_acted_7 ?_
    refine lv_iconst (v := (4 : Int32)) hx hb dX5_acted_10 (by decide) ?_
    refine lv_icmp_ne (tgt := 54) hx hb dX5_acted_11 (by decide) (fun c2 => ?_) (fun c2 => ?_)
    · replace h := fn c2 h
      refine lv_iconst (v := (0 : Int32)) hx hb dX5_acted_54 (by decide) ?_
      refine lv_istore_n (lv' := [(2, .int (0 : Int32)), (0, .ref (a 0)), (1, .int x1)]) hx hb dX5_acted_55 rfl hl (by decide) rfl (fun ls hl => ?_)
      exact w56 FU M x1 (0 : Int32) _ _ ls h hP hD hS (lv_sub hl [1, 2, 0] rfl)
    · replace h := fp c2 h
      refine lv_iconst (v := (0 : Int32)) hx hb dX5_acted_14 (by decide) ?_
      refine lv_istore_n (lv' := [(2, .int (0 : Int32)), (0, .ref (a 0)), (1, .int x1)]) hx hb dX5_acted_15 rfl hl (by decide) rfl (fun ls hl => ?_)
      exact w16 FU M x1 (0 : Int32) _ _ ls h hP hD hS (lv_sub hl [1, 2, 0] rfl)
theorem dX5_adds_0 : decode cX5_adds 0 = .ok (.aload_n 0, 1) := by decide +kernel
theorem dX5_adds_1 : decode cX5_adds 1 = .ok (.getfield 7, 3) := by decide +kernel
theorem dX5_adds_4 : decode cX5_adds 4 = .ok (.iconst 0, 1) := by decide +kernel
theorem dX5_adds_5 : decode cX5_adds 5 = .ok (.iaload, 1) := by decide +kernel
theorem dX5_adds_6 : decode cX5_adds 6 = .ok (.bipush 6, 2) := by decide +kernel
theorem dX5_adds_8 : decode cX5_adds 8 = .ok (.if_icmp .ne 6, 3) := by decide +kernel
theorem dX5_adds_11 : decode cX5_adds 11 = .ok (.ldc 71, 2) := by decide +kernel
theorem dX5_adds_13 : decode cX5_adds 13 = .ok (.ireturn, 1) := by decide +kernel
theorem dX5_adds_14 : decode cX5_adds 14 = .ok (.aload_n 0, 1) := by decide +kernel
theorem dX5_adds_15 : decode cX5_adds 15 = .ok (.getfield 7, 3) := by decide +kernel
theorem dX5_adds_18 : decode cX5_adds 18 = .ok (.iconst 2, 1) := by decide +kernel
theorem dX5_adds_19 : decode cX5_adds 19 = .ok (.iconst 2, 1) := by decide +kernel
theorem dX5_adds_20 : decode cX5_adds 20 = .ok (.aload_n 0, 1) := by decide +kernel
theorem dX5_adds_21 : decode cX5_adds 21 = .ok (.getfield 7, 3) := by decide +kernel
theorem dX5_adds_24 : decode cX5_adds 24 = .ok (.iconst 0, 1) := by decide +kernel
theorem dX5_adds_25 : decode cX5_adds 25 = .ok (.iaload, 1) := by decide +kernel
theorem dX5_adds_26 : decode cX5_adds 26 = .ok (.imul, 1) := by decide +kernel
theorem dX5_adds_27 : decode cX5_adds 27 = .ok (.iadd, 1) := by decide +kernel
theorem dX5_adds_28 : decode cX5_adds 28 = .ok (.iload_n 1, 1) := by decide +kernel
theorem dX5_adds_29 : decode cX5_adds 29 = .ok (.iastore, 1) := by decide +kernel
theorem dX5_adds_30 : decode cX5_adds 30 = .ok (.aload_n 0, 1) := by decide +kernel
theorem dX5_adds_31 : decode cX5_adds 31 = .ok (.getfield 7, 3) := by decide +kernel
theorem dX5_adds_34 : decode cX5_adds 34 = .ok (.iconst 2, 1) := by decide +kernel
theorem dX5_adds_35 : decode cX5_adds 35 = .ok (.iconst 2, 1) := by decide +kernel
theorem dX5_adds_36 : decode cX5_adds 36 = .ok (.aload_n 0, 1) := by decide +kernel
theorem dX5_adds_37 : decode cX5_adds 37 = .ok (.getfield 7, 3) := by decide +kernel
theorem dX5_adds_40 : decode cX5_adds 40 = .ok (.iconst 0, 1) := by decide +kernel
theorem dX5_adds_41 : decode cX5_adds 41 = .ok (.iaload, 1) := by decide +kernel
theorem dX5_adds_42 : decode cX5_adds 42 = .ok (.imul, 1) := by decide +kernel
theorem dX5_adds_43 : decode cX5_adds 43 = .ok (.iadd, 1) := by decide +kernel
theorem dX5_adds_44 : decode cX5_adds 44 = .ok (.iconst 1, 1) := by decide +kernel
theorem dX5_adds_45 : decode cX5_adds 45 = .ok (.iadd, 1) := by decide +kernel
theorem dX5_adds_46 : decode cX5_adds 46 = .ok (.iload_n 2, 1) := by decide +kernel
theorem dX5_adds_47 : decode cX5_adds 47 = .ok (.iastore, 1) := by decide +kernel
theorem dX5_adds_48 : decode cX5_adds 48 = .ok (.aload_n 0, 1) := by decide +kernel
theorem dX5_adds_49 : decode cX5_adds 49 = .ok (.getfield 7, 3) := by decide +kernel
theorem dX5_adds_52 : decode cX5_adds 52 = .ok (.iconst 0, 1) := by decide +kernel
theorem dX5_adds_53 : decode cX5_adds 53 = .ok (.dup2, 1) := by decide +kernel
theorem dX5_adds_54 : decode cX5_adds 54 = .ok (.iaload, 1) := by decide +kernel
theorem dX5_adds_55 : decode cX5_adds 55 = .ok (.iconst 1, 1) := by decide +kernel
theorem dX5_adds_56 : decode cX5_adds 56 = .ok (.iadd, 1) := by decide +kernel
theorem dX5_adds_57 : decode cX5_adds 57 = .ok (.iastore, 1) := by decide +kernel
theorem dX5_adds_58 : decode cX5_adds 58 = .ok (.aload_n 0, 1) := by decide +kernel
theorem dX5_adds_59 : decode cX5_adds 59 = .ok (.getfield 7, 3) := by decide +kernel
theorem dX5_adds_62 : decode cX5_adds 62 = .ok (.iconst 0, 1) := by decide +kernel
theorem dX5_adds_63 : decode cX5_adds 63 = .ok (.iaload, 1) := by decide +kernel
theorem dX5_adds_64 : decode cX5_adds 64 = .ok (.iconst 1, 1) := by decide +kernel
theorem dX5_adds_65 : decode cX5_adds 65 = .ok (.isub, 1) := by decide +kernel
theorem dX5_adds_66 : decode cX5_adds 66 = .ok (.ireturn, 1) := by decide +kernel
set_option maxHeartbeats 4000000 in
set_option maxRecDepth 100000 in
theorem c_X5_adds (l : Launch) (D : va_G) (cI cC cO : ClassId) (a : Nat → Nat) (M : Mm) (x1 x2 : Int32) (res : Int32 × Mm) (sz : Nat) (h : F_X5_adds M x1 x2 = some res) : Met l yX5_adds (Cond.code yX5_adds cX5_adds 3 (Option.some Jvm.ClassFile.FieldType.int) :: lw_g) ({ frames := 0, cells := 0, slots := 0, locals := 0 } : Room) (va_Pc [.ref (a 0), .int x1, .int x2] (pS D cI cC cO sz (wX5 a cI cC cO M))) (QI D cI cC cO (va_A (wX5 a cI cC cO M) sz) (wX5 a cI cC cO res.2) res.1) 0 0 (va_A (wX5 a cI cC cO M) sz) := by
  refine Met.ofW (cc := cX5_adds) (maxL := 3) (ret := (Option.some Jvm.ClassFile.FieldType.int)) (by decide) rfl ?_
  intro p e s m args below meth c s₁ B hml hv
  obtain ⟨rfl, rfl, hP, hK, hD0, hN⟩ := hv
  have hx := B.exec
  have hb := B.bytes
  have hr := B.returns
  have ht : ∀ w ∈ lw_g, w.before ([.ref (a 0), .int x1, .int x2] : List Value).toArray s = true := fun w hw => atoms_spec (ws := Cond.code yX5_adds cX5_adds 3 (Option.some Jvm.ClassFile.FieldType.int) :: lw_g) B.pre w (List.mem_cons_of_mem _ hw)
  have hown : s.vm.findClass RX5 = some m.cls := findClass_of_methodNamed B.named
  have hlocks := B.notSynchronized
  have hD := hD0.self (sz := s.heap.size)
  generalize hAe : va_A (wX5 a cI cC cO M) s.heap.size = A at hD ⊢
  have hA : ∀ q : Nat, s.heap.size ≤ q → A q := fun q hq => by rw [← hAe]; exact Or.inr hq
  have hS : va_S A s.heap s.heap [] := va_S.rf
  have hl := lv_entry ([.ref (a 0), .int x1, .int x2]) (n := 3) (Nat.le_of_ble_eq_true rfl)
  rw [lg_entry_eq]
  generalize (lg_sl ([.ref (a 0), .int x1, .int x2]) ++ List.replicate (3 - (lg_sl ([.ref (a 0), .int x1, .int x2])).length) Slot.unset).toArray = ls at hl ⊢
  have hl : lv_has ls 3 [(0, .ref (a 0)), (1, .int x1), (2, .int x2)] := hl
  unfold F_X5_adds at h
  refine lv_aload_n hx hb dX5_adds_0 rfl (lv_at hl 0 rfl) ?_
  refine va_get (D := D) (ci := 5) (v := .ref (a 1)) (C := RX5) (T := TX5) (N := 23) hx hb ht i_X5 hown hK hP 0 rfl rfl 0 (by decide) (ht _ wd_536) (fun _ h9 => h9) rfl dX5_adds_1 ?_
  refine lv_iconst (v := (0 : Int32)) hx hb dX5_adds_4 (by decide) ?_
  obtain ⟨i1, h⟩ := ck_ok h
  refine va_iald hx hb hK hP 1 0 rfl rfl i1 dX5_adds_5 ?_
  refine lv_bipush (v := (6 : Int32)) hx hb dX5_adds_6 (by decide) ?_
  refine lv_icmp_ne (tgt := 14) hx hb dX5_adds_8 (by decide) (fun c2 => ?_) (fun c2 => ?_)
  · replace h := fn c2 h
    refine lv_aload_n hx hb dX5_adds_14 rfl (lv_at hl 0 rfl) ?_
    refine va_get (D := D) (ci := 5) (v := .ref (a 1)) (C := RX5) (T := TX5) (N := 23) hx hb ht i_X5 hown hK hP 0 rfl rfl 0 (by decide) (ht _ wd_536) (fun _ h9 => h9) rfl dX5_adds_15 ?_
    refine lv_iconst (v := (2 : Int32)) hx hb dX5_adds_18 (by decide) ?_
    refine lv_iconst (v := (2 : Int32)) hx hb dX5_adds_19 (by decide) ?_
    refine lv_aload_n hx hb dX5_adds_20 rfl (lv_at hl 0 rfl) ?_
    refine va_get (D := D) (ci := 5) (v := .ref (a 1)) (C := RX5) (T := TX5) (N := 23) hx hb ht i_X5 hown hK hP 0 rfl rfl 0 (by decide) (ht _ wd_536) (fun _ h9 => h9) rfl dX5_adds_21 ?_
    refine lv_iconst (v := (0 : Int32)) hx hb dX5_adds_24 (by decide) ?_
    obtain ⟨i3, h⟩ := ck_ok h
    refine va_iald hx hb hK hP 1 0 rfl rfl i3 dX5_adds_25 ?_
    refine lv_imul hx hb dX5_adds_26 ?_
    refine lv_iadd hx hb dX5_adds_27 ?_
    refine lv_iload_n hx hb dX5_adds_28 rfl (lv_at hl 1 rfl) ?_
    obtain ⟨i4, h⟩ := ck_ok h
    refine va_iast hx hb hK hP hD hS 1 0 rfl rfl i4 dX5_adds_29 (fun H locs hP hD hS => ?_)
    obtain ⟨M5, e6, h⟩ := sv_ok h
    have hP : va_P D classes (wX5 a cI cC cO M5) H := by rw [← e6]; exact hP
    have hD : va_D A (wX5 a cI cC cO M5) := by rw [← e6]; exact hD
    refine lv_aload_n hx hb dX5_adds_30 rfl (lv_at hl 0 rfl) ?_
    refine va_get (D := D) (ci := 5) (v := .ref (a 1)) (C := RX5) (T := TX5) (N := 23) hx hb ht i_X5 hown hK hP 0 rfl rfl 0 (by decide) (ht _ wd_536) (fun _ h9 => h9) rfl dX5_adds_31 ?_
    refine lv_iconst (v := (2 : Int32)) hx hb dX5_adds_34 (by decide) ?_
    refine lv_iconst (v := (2 : Int32)) hx hb dX5_adds_35 (by decide) ?_
    refine lv_aload_n hx hb dX5_adds_36 rfl (lv_at hl 0 rfl) ?_
    refine va_get (D := D) (ci := 5) (v := .ref (a 1)) (C := RX5) (T := TX5) (N := 23) hx hb ht i_X5 hown hK hP 0 rfl rfl 0 (by decide) (ht _ wd_536) (fun _ h9 => h9) rfl dX5_adds_37 ?_
    refine lv_iconst (v := (0 : Int32)) hx hb dX5_adds_40 (by decide) ?_
    obtain ⟨i7, h⟩ := ck_ok h
    refine va_iald hx hb hK hP 1 0 rfl rfl i7 dX5_adds_41 ?_
    refine lv_imul hx hb dX5_adds_42 ?_
    refine lv_iadd hx hb dX5_adds_43 ?_
    refine lv_iconst (v := (1 : Int32)) hx hb dX5_adds_44 (by decide) ?_
    refine lv_iadd hx hb dX5_adds_45 ?_
    refine lv_iload_n hx hb dX5_adds_46 rfl (lv_at hl 2 rfl) ?_
    obtain ⟨i8, h⟩ := ck_ok h
    refine va_iast hx hb hK hP hD hS 1 0 rfl rfl i8 dX5_adds_47 (fun H locs hP hD hS => ?_)
    obtain ⟨M9, e10, h⟩ := sv_ok h
    have hP : va_P D classes (wX5 a cI cC cO M9) H := by rw [← e10]; exact hP
    have hD : va_D A (wX5 a cI cC cO M9) := by rw [← e10]; exact hD
    refine lv_aload_n hx hb dX5_adds_48 rfl (lv_at hl 0 rfl) ?_
    refine va_get (D := D) (ci := 5) (v := .ref (a 1)) (C := RX5) (T := TX5) (N := 23) hx hb ht i_X5 hown hK hP 0 rfl rfl 0 (by decide) (ht _ wd_536) (fun _ h9 => h9) rfl dX5_adds_49 ?_
    refine lv_iconst (v := (0 : Int32)) hx hb dX5_adds_52 (by decide) ?_
    refine lv_dup2_11 hx hb dX5_adds_53 rfl rfl ?_
    obtain ⟨i11, h⟩ := ck_ok h
    refine va_iald hx hb hK hP 1 0 rfl rfl i11 dX5_adds_54 ?_
    refine lv_iconst (v := (1 : Int32)) hx hb dX5_adds_55 (by decide) ?_
    refine lv_iadd hx hb dX5_adds_56 ?_
    obtain ⟨i12, h⟩ := ck_ok h
    refine va_iast hx hb hK hP hD hS 1 0 rfl rfl i12 dX5_adds_57 (fun H locs hP hD hS => ?_)
    obtain ⟨M13, e14, h⟩ := sv_ok h
    have hP : va_P D classes (wX5 a cI cC cO M13) H := by rw [← e14]; exact hP
    have hD : va_D A (wX5 a cI cC cO M13) := by rw [← e14]; exact hD
    refine lv_aload_n hx hb dX5_adds_58 rfl (lv_at hl 0 rfl) ?_
    refine va_get (D := D) (ci := 5) (v := .ref (a 1)) (C := RX5) (T := TX5) (N := 23) hx hb ht i_X5 hown hK hP 0 rfl rfl 0 (by decide) (ht _ wd_536) (fun _ h9 => h9) rfl dX5_adds_59 ?_
    refine lv_iconst (v := (0 : Int32)) hx hb dX5_adds_62 (by decide) ?_
    obtain ⟨i15, h⟩ := ck_ok h
    refine va_iald hx hb hK hP 1 0 rfl rfl i15 dX5_adds_63 ?_
    refine lv_iconst (v := (1 : Int32)) hx hb dX5_adds_64 (by decide) ?_
    refine lv_isub hx hb dX5_adds_65 ?_
    cases h
    exact rt_i hx hb hr hlocks hS hP hK hD dX5_adds_66
  · replace h := fp c2 h
    refine lv_ldc hx hb hown (ht _ wd_622) dX5_adds_11 ?_
    cases h
    exact rt_i hx hb hr hlocks hS hP hK hD dX5_adds_13
theorem dX5_place_0 : decode cX5_place 0 = .ok (.iload_n 1, 1) := by decide +kernel
theorem dX5_place_1 : decode cX5_place 1 = .ok (.iconst 0, 1) := by decide +kernel
theorem dX5_place_2 : decode cX5_place 2 = .ok (.bipush 20, 2) := by decide +kernel
theorem dX5_place_4 : decode cX5_place 4 = .ok (.invokestatic 63, 3) := by decide +kernel
theorem dX5_place_7 : decode cX5_place 7 = .ok (.ifCond .eq 13, 3) := by decide +kernel
theorem dX5_place_10 : decode cX5_place 10 = .ok (.iload_n 2, 1) := by decide +kernel
theorem dX5_place_11 : decode cX5_place 11 = .ok (.iconst 0, 1) := by decide +kernel
theorem dX5_place_12 : decode cX5_place 12 = .ok (.bipush 40, 2) := by decide +kernel
theorem dX5_place_14 : decode cX5_place 14 = .ok (.invokestatic 63, 3) := by decide +kernel
theorem dX5_place_17 : decode cX5_place 17 = .ok (.ifCond .ne 6, 3) := by decide +kernel
theorem dX5_place_20 : decode cX5_place 20 = .ok (.ldc 67, 2) := by decide +kernel
theorem dX5_place_22 : decode cX5_place 22 = .ok (.ireturn, 1) := by decide +kernel
theorem dX5_place_23 : decode cX5_place 23 = .ok (.aload_n 0, 1) := by decide +kernel
theorem dX5_place_24 : decode cX5_place 24 = .ok (.invokevirtual 72, 3) := by decide +kernel
theorem dX5_place_27 : decode cX5_place 27 = .ok (.aload_n 0, 1) := by decide +kernel
theorem dX5_place_28 : decode cX5_place 28 = .ok (.aload_n 0, 1) := by decide +kernel
theorem dX5_place_29 : decode cX5_place 29 = .ok (.iload_n 1, 1) := by decide +kernel
theorem dX5_place_30 : decode cX5_place 30 = .ok (.iload_n 2, 1) := by decide +kernel
theorem dX5_place_31 : decode cX5_place 31 = .ok (.invokevirtual 75, 3) := by decide +kernel
theorem dX5_place_34 : decode cX5_place 34 = .ok (.invokevirtual 79, 3) := by decide +kernel
theorem dX5_place_37 : decode cX5_place 37 = .ok (.ireturn, 1) := by decide +kernel
set_option maxHeartbeats 4000000 in
set_option maxRecDepth 100000 in
theorem c_X5_place (l : Launch) (D : va_G) (cI cC cO : ClassId) (a : Nat → Nat) (M : Mm) (x1 x2 : Int32) (res : Int32 × Mm) (sz : Nat) (h : F_X5_place M x1 x2 = some res) : Met l yX5_place (Cond.code yX5_place cX5_place 3 (Option.some Jvm.ClassFile.FieldType.int) :: lw_g) ({ frames := 1, cells := 0, slots := 0, locals := 22 } : Room) (va_Pc [.ref (a 0), .int x1, .int x2] (pS D cI cC cO sz (wX5 a cI cC cO M))) (QI D cI cC cO (va_A (wX5 a cI cC cO M) sz) (wX5 a cI cC cO res.2) res.1) 0 0 (va_A (wX5 a cI cC cO M) sz) := by
  refine Met.ofW (cc := cX5_place) (maxL := 3) (ret := (Option.some Jvm.ClassFile.FieldType.int)) (by decide) rfl ?_
  intro p e s m args below meth c s₁ B hml hv
  obtain ⟨rfl, rfl, hP, hK, hD0, hN⟩ := hv
  have hx := B.exec
  have hb := B.bytes
  have hr := B.returns
  have ht : ∀ w ∈ lw_g, w.before ([.ref (a 0), .int x1, .int x2] : List Value).toArray s = true := fun w hw => atoms_spec (ws := Cond.code yX5_place cX5_place 3 (Option.some Jvm.ClassFile.FieldType.int) :: lw_g) B.pre w (List.mem_cons_of_mem _ hw)
  have hown : s.vm.findClass RX5 = some m.cls := findClass_of_methodNamed B.named
  have hlocks := B.notSynchronized
  have hD := hD0.self (sz := s.heap.size)
  generalize hAe : va_A (wX5 a cI cC cO M) s.heap.size = A at hD ⊢
  have hA : ∀ q : Nat, s.heap.size ≤ q → A q := fun q hq => by rw [← hAe]; exact Or.inr hq
  have hS : va_S A s.heap s.heap [] := va_S.rf
  have hl := lv_entry ([.ref (a 0), .int x1, .int x2]) (n := 3) (Nat.le_of_ble_eq_true rfl)
  rw [lg_entry_eq]
  generalize (lg_sl ([.ref (a 0), .int x1, .int x2]) ++ List.replicate (3 - (lg_sl ([.ref (a 0), .int x1, .int x2])).length) Slot.unset).toArray = ls at hl ⊢
  have hl : lv_has ls 3 [(0, .ref (a 0)), (1, .int x1), (2, .int x2)] := hl
  unfold F_X5_place at h
  refine lv_iload_n hx hb dX5_place_0 rfl (lv_at hl 1 rfl) ?_
  refine lv_iconst (v := (0 : Int32)) hx hb dX5_place_1 (by decide) ?_
  refine lv_bipush (v := (20 : Int32)) hx hb dX5_place_2 (by decide) ?_
  obtain ⟨u1, e2, h⟩ := b1_ok h
  refine cl_Si (ws' := (wX5 a cI cC cO M)) ⟨hx, hb, hml, hown, ht⟩ (c_X5_in l D cI cC cO x1 (0 : Int32) (20 : Int32) _ _ e2) (cwst 3 ht wd_612 wd_6 wd_610 wd_611 (by decide +kernel) rfl rfl ⟨Nat.le_of_ble_eq_true rfl, Nat.le_of_ble_eq_true rfl⟩) hK hP hD hS hA hN [] [0, 1, 2, 3, 4, 5, 6, 7, 8, 9, 10, 11, 12] [0, 1, 2, 3, 4, 5, 6, 7, 8, 9, 10, 11, 12] (by decide) rfl rfl (by decide) (by decide) rfl (by decide) rfl hl.1 rfl (Nat.le_of_ble_eq_true rfl) dX5_place_4 ⟨Nat.le_of_ble_eq_true rfl, Nat.le_of_ble_eq_true rfl⟩ (fun H locs hP hD hS => ?_)
  refine lv_if_eq (tgt := 20) hx hb dX5_place_7 (by decide) (fun c3 => ?_) (fun c3 => ?_)
  · replace h := fp c3 h
    refine lv_ldc hx hb hown (ht _ wd_613) dX5_place_20 ?_
    cases h
    exact rt_i hx hb hr hlocks hS hP hK hD dX5_place_22
  · replace h := fn c3 h
    refine lv_iload_n hx hb dX5_place_10 rfl (lv_at hl 2 rfl) ?_
    refine lv_iconst (v := (0 : Int32)) hx hb dX5_place_11 (by decide) ?_
    refine lv_bipush (v := (40 : Int32)) hx hb dX5_place_12 (by decide) ?_
    obtain ⟨u4, e5, h⟩ := b1_ok h
    refine cl_Si (ws' := (wX5 a cI cC cO M)) ⟨hx, hb, hml, hown, ht⟩ (c_X5_in l D cI cC cO x2 (0 : Int32) (40 : Int32) _ _ e5) (cwst 3 ht wd_612 wd_6 wd_610 wd_611 (by decide +kernel) rfl rfl ⟨Nat.le_of_ble_eq_true rfl, Nat.le_of_ble_eq_true rfl⟩) hK hP hD hS hA hN [] [0, 1, 2, 3, 4, 5, 6, 7, 8, 9, 10, 11, 12] [0, 1, 2, 3, 4, 5, 6, 7, 8, 9, 10, 11, 12] (by decide) rfl rfl (by decide) (by decide) rfl (by decide) rfl hl.1 rfl (Nat.le_of_ble_eq_true rfl) dX5_place_14 ⟨Nat.le_of_ble_eq_true rfl, Nat.le_of_ble_eq_true rfl⟩ (fun H locs hP hD hS => ?_)
    refine lv_if_ne (tgt := 23) hx hb dX5_place_17 (by decide) (fun c6 => ?_) (fun c6 => ?_)
    · replace h := fn c6 h
      refine lv_aload_n hx hb dX5_place_23 rfl (lv_at hl 0 rfl) ?_
      obtain ⟨M7, e8, h⟩ := b1_ok h
      refine cl_Vv (ws' := (wX5 a cI cC cO M7)) ⟨hx, hb, hml, hown, ht⟩ (c_X5_keeps l D cI cC cO a M _ _ e8) (cwv 0 ht wd_617 wd_6 wd_614 wd_616 ws_20 (by decide +kernel) rfl rfl ⟨Nat.le_of_ble_eq_true rfl, Nat.le_of_ble_eq_true rfl⟩) 5 0 rfl rfl rfl hK hP hD hS hA hN [0, 1, 2, 3, 4, 5, 6, 7, 8, 9, 10, 11, 12] [] [0, 1, 2, 3, 4, 5, 6, 7, 8, 9, 10, 11, 12] (by decide) rfl rfl (by decide) (by decide) rfl (by decide) rfl hl.1 rfl (Nat.le_of_ble_eq_true rfl) dX5_place_24 ⟨Nat.le_of_ble_eq_true rfl, Nat.le_of_ble_eq_true rfl⟩ (fun H locs hP hD hS => ?_)
      refine lv_aload_n hx hb dX5_place_27 rfl (lv_at hl 0 rfl) ?_
      refine lv_aload_n hx hb dX5_place_28 rfl (lv_at hl 0 rfl) ?_
      refine lv_iload_n hx hb dX5_place_29 rfl (lv_at hl 1 rfl) ?_
      refine lv_iload_n hx hb dX5_place_30 rfl (lv_at hl 2 rfl) ?_
      obtain ⟨u9, M10, e11, h⟩ := b2_ok h
      refine cl_Vi (ws' := (wX5 a cI cC cO M10)) ⟨hx, hb, hml, hown, ht⟩ (c_X5_adds l D cI cC cO a M7 x1 x2 _ _ e11) (cwv 2 ht wd_621 wd_6 wd_618 wd_620 ws_21 (by decide +kernel) rfl rfl ⟨Nat.le_of_ble_eq_true rfl, Nat.le_of_ble_eq_true rfl⟩) 5 0 rfl rfl rfl hK hP hD hS hA hN [0, 1, 2, 3, 4, 5, 6, 7, 8, 9, 10, 11, 12] [] [0, 1, 2, 3, 4, 5, 6, 7, 8, 9, 10, 11, 12] (by decide) rfl rfl (by decide) (by decide) rfl (by decide) rfl hl.1 rfl (Nat.le_of_ble_eq_true rfl) dX5_place_31 ⟨Nat.le_of_ble_eq_true rfl, Nat.le_of_ble_eq_true rfl⟩ (fun H locs hP hD hS => ?_)
      obtain ⟨u12, M13, e14, h⟩ := b2_ok h
      refine cl_Vi (ws' := (wX5 a cI cC cO M13)) ⟨hx, hb, hml, hown, ht⟩ (c_X5_acted l D cI cC cO a M10 u9 _ _ e14) (cwv 1 ht wd_626 wd_6 wd_623 wd_625 ws_22 (by decide +kernel) rfl rfl ⟨Nat.le_of_ble_eq_true rfl, Nat.le_of_ble_eq_true rfl⟩) 5 0 rfl rfl rfl hK hP hD hS hA hN [0, 1, 2, 3, 4, 5, 6, 7, 8, 9, 10, 11, 12] [] [0, 1, 2, 3, 4, 5, 6, 7, 8, 9, 10, 11, 12] (by decide) rfl rfl (by decide) (by decide) rfl (by decide) rfl hl.1 rfl (Nat.le_of_ble_eq_true rfl) dX5_place_34 ⟨Nat.le_of_ble_eq_true rfl, Nat.le_of_ble_eq_true rfl⟩ (fun H locs hP hD hS => ?_)
      cases h
      exact rt_i hx hb hr hlocks hS hP hK hD dX5_place_37
    · replace h := fp c6 h
      refine lv_ldc hx hb hown (ht _ wd_613) dX5_place_20 ?_
      cases h
      exact rt_i hx hb hr hlocks hS hP hK hD dX5_place_22
theorem dX5_lays_0 : decode cX5_lays 0 = .ok (.aload_n 0, 1) := by decide +kernel
theorem dX5_lays_1 : decode cX5_lays 1 = .ok (.getfield 7, 3) := by decide +kernel
theorem dX5_lays_4 : decode cX5_lays 4 = .ok (.iconst 1, 1) := by decide +kernel
theorem dX5_lays_5 : decode cX5_lays 5 = .ok (.iaload, 1) := by decide +kernel
theorem dX5_lays_6 : decode cX5_lays 6 = .ok (.bipush 10, 2) := by decide +kernel
theorem dX5_lays_8 : decode cX5_lays 8 = .ok (.if_icmp .ne 6, 3) := by decide +kernel
theorem dX5_lays_11 : decode cX5_lays 11 = .ok (.ldc 71, 2) := by decide +kernel
theorem dX5_lays_13 : decode cX5_lays 13 = .ok (.ireturn, 1) := by decide +kernel
theorem dX5_lays_14 : decode cX5_lays 14 = .ok (.bipush 14, 2) := by decide +kernel
theorem dX5_lays_16 : decode cX5_lays 16 = .ok (.bipush 6, 2) := by decide +kernel
theorem dX5_lays_18 : decode cX5_lays 18 = .ok (.aload_n 0, 1) := by decide +kernel
theorem dX5_lays_19 : decode cX5_lays 19 = .ok (.getfield 7, 3) := by decide +kernel
theorem dX5_lays_22 : decode cX5_lays 22 = .ok (.iconst 1, 1) := by decide +kernel
theorem dX5_lays_23 : decode cX5_lays 23 = .ok (.iaload, 1) := by decide +kernel
theorem dX5_lays_24 : decode cX5_lays 24 = .ok (.imul, 1) := by decide +kernel
theorem dX5_lays_25 : decode cX5_lays 25 = .ok (.iadd, 1) := by decide +kernel
theorem dX5_lays_26 : decode cX5_lays 26 = .ok (.istore 5, 2) := by decide +kernel
theorem dX5_lays_28 : decode cX5_lays 28 = .ok (.aload_n 0, 1) := by decide +kernel
theorem dX5_lays_29 : decode cX5_lays 29 = .ok (.getfield 7, 3) := by decide +kernel
theorem dX5_lays_32 : decode cX5_lays 32 = .ok (.iload 5, 2) := by decide +kernel
theorem dX5_lays_34 : decode cX5_lays 34 = .ok (.iload_n 1, 1) := by decide +kernel
theorem dX5_lays_35 : decode cX5_lays 35 = .ok (.iastore, 1) := by decide +kernel
theorem dX5_lays_36 : decode cX5_lays 36 = .ok (.aload_n 0, 1) := by decide +kernel
theorem dX5_lays_37 : decode cX5_lays 37 = .ok (.getfield 7, 3) := by decide +kernel
theorem dX5_lays_40 : decode cX5_lays 40 = .ok (.iload 5, 2) := by decide +kernel
theorem dX5_lays_42 : decode cX5_lays 42 = .ok (.iconst 1, 1) := by decide +kernel
theorem dX5_lays_43 : decode cX5_lays 43 = .ok (.iadd, 1) := by decide +kernel
theorem dX5_lays_44 : decode cX5_lays 44 = .ok (.iload_n 2, 1) := by decide +kernel
theorem dX5_lays_45 : decode cX5_lays 45 = .ok (.iastore, 1) := by decide +kernel
theorem dX5_lays_46 : decode cX5_lays 46 = .ok (.aload_n 0, 1) := by decide +kernel
theorem dX5_lays_47 : decode cX5_lays 47 = .ok (.getfield 7, 3) := by decide +kernel
theorem dX5_lays_50 : decode cX5_lays 50 = .ok (.iload 5, 2) := by decide +kernel
theorem dX5_lays_52 : decode cX5_lays 52 = .ok (.iconst 2, 1) := by decide +kernel
theorem dX5_lays_53 : decode cX5_lays 53 = .ok (.iadd, 1) := by decide +kernel
theorem dX5_lays_54 : decode cX5_lays 54 = .ok (.iload_n 3, 1) := by decide +kernel
theorem dX5_lays_55 : decode cX5_lays 55 = .ok (.iastore, 1) := by decide +kernel
theorem dX5_lays_56 : decode cX5_lays 56 = .ok (.aload_n 0, 1) := by decide +kernel
theorem dX5_lays_57 : decode cX5_lays 57 = .ok (.getfield 7, 3) := by decide +kernel
theorem dX5_lays_60 : decode cX5_lays 60 = .ok (.iload 5, 2) := by decide +kernel
theorem dX5_lays_62 : decode cX5_lays 62 = .ok (.iconst 3, 1) := by decide +kernel
theorem dX5_lays_63 : decode cX5_lays 63 = .ok (.iadd, 1) := by decide +kernel
theorem dX5_lays_64 : decode cX5_lays 64 = .ok (.iload 4, 2) := by decide +kernel
theorem dX5_lays_66 : decode cX5_lays 66 = .ok (.iastore, 1) := by decide +kernel
theorem dX5_lays_67 : decode cX5_lays 67 = .ok (.aload_n 0, 1) := by decide +kernel
theorem dX5_lays_68 : decode cX5_lays 68 = .ok (.getfield 7, 3) := by decide +kernel
theorem dX5_lays_71 : decode cX5_lays 71 = .ok (.iload 5, 2) := by decide +kernel
theorem dX5_lays_73 : decode cX5_lays 73 = .ok (.iconst 4, 1) := by decide +kernel
theorem dX5_lays_74 : decode cX5_lays 74 = .ok (.iadd, 1) := by decide +kernel
theorem dX5_lays_75 : decode cX5_lays 75 = .ok (.iconst 0, 1) := by decide +kernel
theorem dX5_lays_76 : decode cX5_lays 76 = .ok (.iastore, 1) := by decide +kernel
theorem dX5_lays_77 : decode cX5_lays 77 = .ok (.aload_n 0, 1) := by decide +kernel
theorem dX5_lays_78 : decode cX5_lays 78 = .ok (.getfield 7, 3) := by decide +kernel
theorem dX5_lays_81 : decode cX5_lays 81 = .ok (.iload 5, 2) := by decide +kernel
theorem dX5_lays_83 : decode cX5_lays 83 = .ok (.iconst 5, 1) := by decide +kernel
theorem dX5_lays_84 : decode cX5_lays 84 = .ok (.iadd, 1) := by decide +kernel
theorem dX5_lays_85 : decode cX5_lays 85 = .ok (.bipush 15, 2) := by decide +kernel
theorem dX5_lays_87 : decode cX5_lays 87 = .ok (.iastore, 1) := by decide +kernel
theorem dX5_lays_88 : decode cX5_lays 88 = .ok (.aload_n 0, 1) := by decide +kernel
theorem dX5_lays_89 : decode cX5_lays 89 = .ok (.getfield 7, 3) := by decide +kernel
theorem dX5_lays_92 : decode cX5_lays 92 = .ok (.iconst 1, 1) := by decide +kernel
theorem dX5_lays_93 : decode cX5_lays 93 = .ok (.dup2, 1) := by decide +kernel
theorem dX5_lays_94 : decode cX5_lays 94 = .ok (.iaload, 1) := by decide +kernel
theorem dX5_lays_95 : decode cX5_lays 95 = .ok (.iconst 1, 1) := by decide +kernel
theorem dX5_lays_96 : decode cX5_lays 96 = .ok (.iadd, 1) := by decide +kernel
theorem dX5_lays_97 : decode cX5_lays 97 = .ok (.iastore, 1) := by decide +kernel
theorem dX5_lays_98 : decode cX5_lays 98 = .ok (.aload_n 0, 1) := by decide +kernel
theorem dX5_lays_99 : decode cX5_lays 99 = .ok (.getfield 7, 3) := by decide +kernel
theorem dX5_lays_102 : decode cX5_lays 102 = .ok (.iconst 1, 1) := by decide +kernel
theorem dX5_lays_103 : decode cX5_lays 103 = .ok (.iaload, 1) := by decide +kernel
theorem dX5_lays_104 : decode cX5_lays 104 = .ok (.iconst 1, 1) := by decide +kernel
theorem dX5_lays_105 : decode cX5_lays 105 = .ok (.isub, 1) := by decide +kernel
theorem dX5_lays_106 : decode cX5_lays 106 = .ok (.ireturn, 1) := by decide +kernel
set_option maxHeartbeats 4000000 in
set_option maxRecDepth 100000 in
theorem c_X5_lays (l : Launch) (D : va_G) (cI cC cO : ClassId) (a : Nat → Nat) (M : Mm) (x1 x2 x3 x4 : Int32) (res : Int32 × Mm) (sz : Nat) (h : F_X5_lays M x1 x2 x3 x4 = some res) : Met l yX5_lays (Cond.code yX5_lays cX5_lays 6 (Option.some Jvm.ClassFile.FieldType.int) :: lw_g) ({ frames := 0, cells := 0, slots := 0, locals := 0 } : Room) (va_Pc [.ref (a 0), .int x1, .int x2, .int x3, .int x4] (pS D cI cC cO sz (wX5 a cI cC cO M))) (QI D cI cC cO (va_A (wX5 a cI cC cO M) sz) (wX5 a cI cC cO res.2) res.1) 0 0 (va_A (wX5 a cI cC cO M) sz) := by
  refine Met.ofW (cc := cX5_lays) (maxL := 6) (ret := (Option.some Jvm.ClassFile.FieldType.int)) (by decide) rfl ?_
  intro p e s m args below meth c s₁ B hml hv
  obtain ⟨rfl, rfl, hP, hK, hD0, hN⟩ := hv
  have hx := B.exec
  have hb := B.bytes
  have hr := B.returns
  have ht : ∀ w ∈ lw_g, w.before ([.ref (a 0), .int x1, .int x2, .int x3, .int x4] : List Value).toArray s = true := fun w hw => atoms_spec (ws := Cond.code yX5_lays cX5_lays 6 (Option.some Jvm.ClassFile.FieldType.int) :: lw_g) B.pre w (List.mem_cons_of_mem _ hw)
  have hown : s.vm.findClass RX5 = some m.cls := findClass_of_methodNamed B.named
  have hlocks := B.notSynchronized
  have hD := hD0.self (sz := s.heap.size)
  generalize hAe : va_A (wX5 a cI cC cO M) s.heap.size = A at hD ⊢
  have hA : ∀ q : Nat, s.heap.size ≤ q → A q := fun q hq => by rw [← hAe]; exact Or.inr hq
  have hS : va_S A s.heap s.heap [] := va_S.rf
  have hl := lv_entry ([.ref (a 0), .int x1, .int x2, .int x3, .int x4]) (n := 6) (Nat.le_of_ble_eq_true rfl)
  rw [lg_entry_eq]
  generalize (lg_sl ([.ref (a 0), .int x1, .int x2, .int x3, .int x4]) ++ List.replicate (6 - (lg_sl ([.ref (a 0), .int x1, .int x2, .int x3, .int x4])).length) Slot.unset).toArray = ls at hl ⊢
  have hl : lv_has ls 6 [(0, .ref (a 0)), (1, .int x1), (2, .int x2), (3, .int x3), (4, .int x4)] := hl
  unfold F_X5_lays at h
  refine lv_aload_n hx hb dX5_lays_0 rfl (lv_at hl 0 rfl) ?_
  refine va_get (D := D) (ci := 5) (v := .ref (a 1)) (C := RX5) (T := TX5) (N := 23) hx hb ht i_X5 hown hK hP 0 rfl rfl 0 (by decide) (ht _ wd_536) (fun _ h9 => h9) rfl dX5_lays_1 ?_
  refine lv_iconst (v := (1 : Int32)) hx hb dX5_lays_4 (by decide) ?_
  obtain ⟨i1, h⟩ := ck_ok h
  refine va_iald hx hb hK hP 1 0 rfl rfl i1 dX5_lays_5 ?_
  refine lv_bipush (v := (10 : Int32)) hx hb dX5_lays_6 (by decide) ?_
  refine lv_icmp_ne (tgt := 14) hx hb dX5_lays_8 (by decide) (fun c2 => ?_) (fun c2 => ?_)
  · replace h := fn c2 h
    refine lv_bipush (v := (14 : Int32)) hx hb dX5_lays_14 (by decide) ?_
    refine lv_bipush (v := (6 : Int32)) hx hb dX5_lays_16 (by decide) ?_
    refine lv_aload_n hx hb dX5_lays_18 rfl (lv_at hl 0 rfl) ?_
    refine va_get (D := D) (ci := 5) (v := .ref (a 1)) (C := RX5) (T := TX5) (N := 23) hx hb ht i_X5 hown hK hP 0 rfl rfl 0 (by decide) (ht _ wd_536) (fun _ h9 => h9) rfl dX5_lays_19 ?_
    refine lv_iconst (v := (1 : Int32)) hx hb dX5_lays_22 (by decide) ?_
    obtain ⟨i3, h⟩ := ck_ok h
    refine va_iald hx hb hK hP 1 0 rfl rfl i3 dX5_lays_23 ?_
    refine lv_imul hx hb dX5_lays_24 ?_
    refine lv_iadd hx hb dX5_lays_25 ?_
    refine lv_istore (lv' := [(5, .int ((14 : Int32) + ((6 : Int32) * (M 0 (1 : Int32).toNatClampNeg)))), (0, .ref (a 0)), (1, .int x1), (2, .int x2), (3, .int x3), (4, .int x4)]) hx hb dX5_lays_26 hl (by decide) rfl (fun ls hl => ?_)
    refine lv_aload_n hx hb dX5_lays_28 rfl (lv_at hl 1 rfl) ?_
    refine va_get (D := D) (ci := 5) (v := .ref (a 1)) (C := RX5) (T := TX5) (N := 23) hx hb ht i_X5 hown hK hP 0 rfl rfl 0 (by decide) (ht _ wd_536) (fun _ h9 => h9) rfl dX5_lays_29 ?_
    refine lv_iload hx hb dX5_lays_32 (lv_at hl 0 rfl) ?_
    refine lv_iload_n hx hb dX5_lays_34 rfl (lv_at hl 2 rfl) ?_
    obtain ⟨i4, h⟩ := ck_ok h
    refine va_iast hx hb hK hP hD hS 1 0 rfl rfl i4 dX5_lays_35 (fun H locs hP hD hS => ?_)
    obtain ⟨M5, e6, h⟩ := sv_ok h
    have hP : va_P D classes (wX5 a cI cC cO M5) H := by rw [← e6]; exact hP
    have hD : va_D A (wX5 a cI cC cO M5) := by rw [← e6]; exact hD
    refine lv_aload_n hx hb dX5_lays_36 rfl (lv_at hl 1 rfl) ?_
    refine va_get (D := D) (ci := 5) (v := .ref (a 1)) (C := RX5) (T := TX5) (N := 23) hx hb ht i_X5 hown hK hP 0 rfl rfl 0 (by decide) (ht _ wd_536) (fun _ h9 => h9) rfl dX5_lays_37 ?_
    refine lv_iload hx hb dX5_lays_40 (lv_at hl 0 rfl) ?_
    refine lv_iconst (v := (1 : Int32)) hx hb dX5_lays_42 (by decide) ?_
    refine lv_iadd hx hb dX5_lays_43 ?_
    refine lv_iload_n hx hb dX5_lays_44 rfl (lv_at hl 3 rfl) ?_
    obtain ⟨i7, h⟩ := ck_ok h
    refine va_iast hx hb hK hP hD hS 1 0 rfl rfl i7 dX5_lays_45 (fun H locs hP hD hS => ?_)
    obtain ⟨M8, e9, h⟩ := sv_ok h
    have hP : va_P D classes (wX5 a cI cC cO M8) H := by rw [← e9]; exact hP
    have hD : va_D A (wX5 a cI cC cO M8) := by rw [← e9]; exact hD
    refine lv_aload_n hx hb dX5_lays_46 rfl (lv_at hl 1 rfl) ?_
    refine va_get (D := D) (ci := 5) (v := .ref (a 1)) (C := RX5) (T := TX5) (N := 23) hx hb ht i_X5 hown hK hP 0 rfl rfl 0 (by decide) (ht _ wd_536) (fun _ h9 => h9) rfl dX5_lays_47 ?_
    refine lv_iload hx hb dX5_lays_50 (lv_at hl 0 rfl) ?_
    refine lv_iconst (v := (2 : Int32)) hx hb dX5_lays_52 (by decide) ?_
    refine lv_iadd hx hb dX5_lays_53 ?_
    refine lv_iload_n hx hb dX5_lays_54 rfl (lv_at hl 4 rfl) ?_
    obtain ⟨i10, h⟩ := ck_ok h
    refine va_iast hx hb hK hP hD hS 1 0 rfl rfl i10 dX5_lays_55 (fun H locs hP hD hS => ?_)
    obtain ⟨M11, e12, h⟩ := sv_ok h
    have hP : va_P D classes (wX5 a cI cC cO M11) H := by rw [← e12]; exact hP
    have hD : va_D A (wX5 a cI cC cO M11) := by rw [← e12]; exact hD
    refine lv_aload_n hx hb dX5_lays_56 rfl (lv_at hl 1 rfl) ?_
    refine va_get (D := D) (ci := 5) (v := .ref (a 1)) (C := RX5) (T := TX5) (N := 23) hx hb ht i_X5 hown hK hP 0 rfl rfl 0 (by decide) (ht _ wd_536) (fun _ h9 => h9) rfl dX5_lays_57 ?_
    refine lv_iload hx hb dX5_lays_60 (lv_at hl 0 rfl) ?_
    refine lv_iconst (v := (3 : Int32)) hx hb dX5_lays_62 (by decide) ?_
    refine lv_iadd hx hb dX5_lays_63 ?_
    refine lv_iload hx hb dX5_lays_64 (lv_at hl 5 rfl) ?_
    obtain ⟨i13, h⟩ := ck_ok h
    refine va_iast hx hb hK hP hD hS 1 0 rfl rfl i13 dX5_lays_66 (fun H locs hP hD hS => ?_)
    obtain ⟨M14, e15, h⟩ := sv_ok h
    have hP : va_P D classes (wX5 a cI cC cO M14) H := by rw [← e15]; exact hP
    have hD : va_D A (wX5 a cI cC cO M14) := by rw [← e15]; exact hD
    refine lv_aload_n hx hb dX5_lays_67 rfl (lv_at hl 1 rfl) ?_
    refine va_get (D := D) (ci := 5) (v := .ref (a 1)) (C := RX5) (T := TX5) (N := 23) hx hb ht i_X5 hown hK hP 0 rfl rfl 0 (by decide) (ht _ wd_536) (fun _ h9 => h9) rfl dX5_lays_68 ?_
    refine lv_iload hx hb dX5_lays_71 (lv_at hl 0 rfl) ?_
    refine lv_iconst (v := (4 : Int32)) hx hb dX5_lays_73 (by decide) ?_
    refine lv_iadd hx hb dX5_lays_74 ?_
    refine lv_iconst (v := (0 : Int32)) hx hb dX5_lays_75 (by decide) ?_
    obtain ⟨i16, h⟩ := ck_ok h
    refine va_iast hx hb hK hP hD hS 1 0 rfl rfl i16 dX5_lays_76 (fun H locs hP hD hS => ?_)
    obtain ⟨M17, e18, h⟩ := sv_ok h
    have hP : va_P D classes (wX5 a cI cC cO M17) H := by rw [← e18]; exact hP
    have hD : va_D A (wX5 a cI cC cO M17) := by rw [← e18]; exact hD
    refine lv_aload_n hx hb dX5_lays_77 rfl (lv_at hl 1 rfl) ?_
    refine va_get (D := D) (ci := 5) (v := .ref (a 1)) (C := RX5) (T := TX5) (N := 23) hx hb ht i_X5 hown hK hP 0 rfl rfl 0 (by decide) (ht _ wd_536) (fun _ h9 => h9) rfl dX5_lays_78 ?_
    refine lv_iload hx hb dX5_lays_81 (lv_at hl 0 rfl) ?_
    refine lv_iconst (v := (5 : Int32)) hx hb dX5_lays_83 (by decide) ?_
    refine lv_iadd hx hb dX5_lays_84 ?_
    refine lv_bipush (v := (15 : Int32)) hx hb dX5_lays_85 (by decide) ?_
    obtain ⟨i19, h⟩ := ck_ok h
    refine va_iast hx hb hK hP hD hS 1 0 rfl rfl i19 dX5_lays_87 (fun H locs hP hD hS => ?_)
    obtain ⟨M20, e21, h⟩ := sv_ok h
    have hP : va_P D classes (wX5 a cI cC cO M20) H := by rw [← e21]; exact hP
    have hD : va_D A (wX5 a cI cC cO M20) := by rw [← e21]; exact hD
    refine lv_aload_n hx hb dX5_lays_88 rfl (lv_at hl 1 rfl) ?_
    refine va_get (D := D) (ci := 5) (v := .ref (a 1)) (C := RX5) (T := TX5) (N := 23) hx hb ht i_X5 hown hK hP 0 rfl rfl 0 (by decide) (ht _ wd_536) (fun _ h9 => h9) rfl dX5_lays_89 ?_
    refine lv_iconst (v := (1 : Int32)) hx hb dX5_lays_92 (by decide) ?_
    refine lv_dup2_11 hx hb dX5_lays_93 rfl rfl ?_
    obtain ⟨i22, h⟩ := ck_ok h
    refine va_iald hx hb hK hP 1 0 rfl rfl i22 dX5_lays_94 ?_
    refine lv_iconst (v := (1 : Int32)) hx hb dX5_lays_95 (by decide) ?_
    refine lv_iadd hx hb dX5_lays_96 ?_
    obtain ⟨i23, h⟩ := ck_ok h
    refine va_iast hx hb hK hP hD hS 1 0 rfl rfl i23 dX5_lays_97 (fun H locs hP hD hS => ?_)
    obtain ⟨M24, e25, h⟩ := sv_ok h
    have hP : va_P D classes (wX5 a cI cC cO M24) H := by rw [← e25]; exact hP
    have hD : va_D A (wX5 a cI cC cO M24) := by rw [← e25]; exact hD
    refine lv_aload_n hx hb dX5_lays_98 rfl (lv_at hl 1 rfl) ?_
    refine va_get (D := D) (ci := 5) (v := .ref (a 1)) (C := RX5) (T := TX5) (N := 23) hx hb ht i_X5 hown hK hP 0 rfl rfl 0 (by decide) (ht _ wd_536) (fun _ h9 => h9) rfl dX5_lays_99 ?_
    refine lv_iconst (v := (1 : Int32)) hx hb dX5_lays_102 (by decide) ?_
    obtain ⟨i26, h⟩ := ck_ok h
    refine va_iald hx hb hK hP 1 0 rfl rfl i26 dX5_lays_103 ?_
    refine lv_iconst (v := (1 : Int32)) hx hb dX5_lays_104 (by decide) ?_
    refine lv_isub hx hb dX5_lays_105 ?_
    cases h
    exact rt_i hx hb hr hlocks hS hP hK hD dX5_lays_106
  · replace h := fp c2 h
    refine lv_ldc hx hb hown (ht _ wd_622) dX5_lays_11 ?_
    cases h
    exact rt_i hx hb hr hlocks hS hP hK hD dX5_lays_13
theorem dX5_pipe_0 : decode cX5_pipe 0 = .ok (.aload_n 0, 1) := by decide +kernel
theorem dX5_pipe_1 : decode cX5_pipe 1 = .ok (.iload_n 1, 1) := by decide +kernel
theorem dX5_pipe_2 : decode cX5_pipe 2 = .ok (.invokevirtual 83, 3) := by decide +kernel
theorem dX5_pipe_5 : decode cX5_pipe 5 = .ok (.ifCond .eq 36, 3) := by decide +kernel
theorem dX5_pipe_8 : decode cX5_pipe 8 = .ok (.aload_n 0, 1) := by decide +kernel
theorem dX5_pipe_9 : decode cX5_pipe 9 = .ok (.iload_n 2, 1) := by decide +kernel
theorem dX5_pipe_10 : decode cX5_pipe 10 = .ok (.invokevirtual 83, 3) := by decide +kernel
theorem dX5_pipe_13 : decode cX5_pipe 13 = .ok (.ifCond .eq 28, 3) := by decide +kernel
theorem dX5_pipe_16 : decode cX5_pipe 16 = .ok (.iload_n 1, 1) := by decide +kernel
theorem dX5_pipe_17 : decode cX5_pipe 17 = .ok (.iload_n 2, 1) := by decide +kernel
theorem dX5_pipe_18 : decode cX5_pipe 18 = .ok (.if_icmp .eq 23, 3) := by decide +kernel
theorem dX5_pipe_21 : decode cX5_pipe 21 = .ok (.iload_n 3, 1) := by decide +kernel
theorem dX5_pipe_22 : decode cX5_pipe 22 = .ok (.iconst 1, 1) := by decide +kernel
theorem dX5_pipe_23 : decode cX5_pipe 23 = .ok (.iconst 4, 1) := by decide +kernel
theorem dX5_pipe_24 : decode cX5_pipe 24 = .ok (.invokestatic 63, 3) := by decide +kernel
theorem dX5_pipe_27 : decode cX5_pipe 27 = .ok (.ifCond .eq 14, 3) := by decide +kernel
theorem dX5_pipe_30 : decode cX5_pipe 30 = .ok (.iload 4, 2) := by decide +kernel
theorem dX5_pipe_32 : decode cX5_pipe 32 = .ok (.iconst 1, 1) := by decide +kernel
theorem dX5_pipe_33 : decode cX5_pipe 33 = .ok (.bipush 9, 2) := by decide +kernel
theorem dX5_pipe_35 : decode cX5_pipe 35 = .ok (.invokestatic 63, 3) := by decide +kernel
theorem dX5_pipe_38 : decode cX5_pipe 38 = .ok (.ifCond .ne 6, 3) := by decide +kernel
theorem dX5_pipe_41 : decode cX5_pipe 41 = .ok (.ldc 67, 2) := by decide +kernel
theorem dX5_pipe_43 : decode cX5_pipe 43 = .ok (.ireturn, 1) := by decide +kernel
theorem dX5_pipe_44 : decode cX5_pipe 44 = .ok (.aload_n 0, 1) := by decide +kernel
theorem dX5_pipe_45 : decode cX5_pipe 45 = .ok (.invokevirtual 72, 3) := by decide +kernel
theorem dX5_pipe_48 : decode cX5_pipe 48 = .ok (.aload_n 0, 1) := by decide +kernel
theorem dX5_pipe_49 : decode cX5_pipe 49 = .ok (.aload_n 0, 1) := by decide +kernel
theorem dX5_pipe_50 : decode cX5_pipe 50 = .ok (.iload_n 1, 1) := by decide +kernel
theorem dX5_pipe_51 : decode cX5_pipe 51 = .ok (.iload_n 2, 1) := by decide +kernel
theorem dX5_pipe_52 : decode cX5_pipe 52 = .ok (.iload_n 3, 1) := by decide +kernel
theorem dX5_pipe_53 : decode cX5_pipe 53 = .ok (.iload 4, 2) := by decide +kernel
theorem dX5_pipe_55 : decode cX5_pipe 55 = .ok (.invokevirtual 87, 3) := by decide +kernel
theorem dX5_pipe_58 : decode cX5_pipe 58 = .ok (.invokevirtual 79, 3) := by decide +kernel
theorem dX5_pipe_61 : decode cX5_pipe 61 = .ok (.ireturn, 1) := by decide +kernel
set_option maxHeartbeats 4000000 in
set_option maxRecDepth 100000 in
theorem c_X5_pipe (l : Launch) (D : va_G) (cI cC cO : ClassId) (a : Nat → Nat) (M : Mm) (x1 x2 x3 x4 : Int32) (res : Int32 × Mm) (sz : Nat) (h : F_X5_pipe M x1 x2 x3 x4 = some res) : Met l yX5_pipe (Cond.code yX5_pipe cX5_pipe 5 (Option.some Jvm.ClassFile.FieldType.int) :: lw_g) ({ frames := 2, cells := 0, slots := 0, locals := 43 } : Room) (va_Pc [.ref (a 0), .int x1, .int x2, .int x3, .int x4] (pS D cI cC cO sz (wX5 a cI cC cO M))) (QI D cI cC cO (va_A (wX5 a cI cC cO M) sz) (wX5 a cI cC cO res.2) res.1) 0 0 (va_A (wX5 a cI cC cO M) sz) := by
  refine Met.ofW (cc := cX5_pipe) (maxL := 5) (ret := (Option.some Jvm.ClassFile.FieldType.int)) (by decide) rfl ?_
  intro p e s m args below meth c s₁ B hml hv
  obtain ⟨rfl, rfl, hP, hK, hD0, hN⟩ := hv
  have hx := B.exec
  have hb := B.bytes
  have hr := B.returns
  have ht : ∀ w ∈ lw_g, w.before ([.ref (a 0), .int x1, .int x2, .int x3, .int x4] : List Value).toArray s = true := fun w hw => atoms_spec (ws := Cond.code yX5_pipe cX5_pipe 5 (Option.some Jvm.ClassFile.FieldType.int) :: lw_g) B.pre w (List.mem_cons_of_mem _ hw)
  have hown : s.vm.findClass RX5 = some m.cls := findClass_of_methodNamed B.named
  have hlocks := B.notSynchronized
  have hD := hD0.self (sz := s.heap.size)
  generalize hAe : va_A (wX5 a cI cC cO M) s.heap.size = A at hD ⊢
  have hA : ∀ q : Nat, s.heap.size ≤ q → A q := fun q hq => by rw [← hAe]; exact Or.inr hq
  have hS : va_S A s.heap s.heap [] := va_S.rf
  have hl := lv_entry ([.ref (a 0), .int x1, .int x2, .int x3, .int x4]) (n := 5) (Nat.le_of_ble_eq_true rfl)
  rw [lg_entry_eq]
  generalize (lg_sl ([.ref (a 0), .int x1, .int x2, .int x3, .int x4]) ++ List.replicate (5 - (lg_sl ([.ref (a 0), .int x1, .int x2, .int x3, .int x4])).length) Slot.unset).toArray = ls at hl ⊢
  have hl : lv_has ls 5 [(0, .ref (a 0)), (1, .int x1), (2, .int x2), (3, .int x3), (4, .int x4)] := hl
  unfold F_X5_pipe at h
  refine lv_aload_n hx hb dX5_pipe_0 rfl (lv_at hl 0 rfl) ?_
  refine lv_iload_n hx hb dX5_pipe_1 rfl (lv_at hl 1 rfl) ?_
  obtain ⟨u1, e2, h⟩ := b1_ok h
  refine cl_Vi (ws' := (wX5 a cI cC cO M)) ⟨hx, hb, hml, hown, ht⟩ (c_X5_isPlace l D cI cC cO a M x1 _ _ e2) (cwv 1 ht wd_634 wd_6 wd_631 wd_633 ws_23 (by decide +kernel) rfl rfl ⟨Nat.le_of_ble_eq_true rfl, Nat.le_of_ble_eq_true rfl⟩) 5 0 rfl rfl rfl hK hP hD hS hA hN [0, 1, 2, 3, 4, 5, 6, 7, 8, 9, 10, 11, 12] [] [0, 1, 2, 3, 4, 5, 6, 7, 8, 9, 10, 11, 12] (by decide) rfl rfl (by decide) (by decide) rfl (by decide) rfl hl.1 rfl (Nat.le_of_ble_eq_true rfl) dX5_pipe_2 ⟨Nat.le_of_ble_eq_true rfl, Nat.le_of_ble_eq_true rfl⟩ (fun H locs hP hD hS => ?_)
  refine lv_if_eq (tgt := 41) hx hb dX5_pipe_5 (by decide) (fun c3 => ?_) (fun c3 => ?_)
  · replace h := fp c3 h
    refine lv_ldc hx hb hown (ht _ wd_613) dX5_pipe_41 ?_
    cases h
    exact rt_i hx hb hr hlocks hS hP hK hD dX5_pipe_43
  · replace h := fn c3 h
    refine lv_aload_n hx hb dX5_pipe_8 rfl (lv_at hl 0 rfl) ?_
    refine lv_iload_n hx hb dX5_pipe_9 rfl (lv_at hl 2 rfl) ?_
    obtain ⟨u4, e5, h⟩ := b1_ok h
    refine cl_Vi (ws' := (wX5 a cI cC cO M)) ⟨hx, hb, hml, hown, ht⟩ (c_X5_isPlace l D cI cC cO a M x2 _ _ e5) (cwv 1 ht wd_634 wd_6 wd_631 wd_633 ws_23 (by decide +kernel) rfl rfl ⟨Nat.le_of_ble_eq_true rfl, Nat.le_of_ble_eq_true rfl⟩) 5 0 rfl rfl rfl hK hP hD hS hA hN [0, 1, 2, 3, 4, 5, 6, 7, 8, 9, 10, 11, 12] [] [0, 1, 2, 3, 4, 5, 6, 7, 8, 9, 10, 11, 12] (by decide) rfl rfl (by decide) (by decide) rfl (by decide) rfl hl.1 rfl (Nat.le_of_ble_eq_true rfl) dX5_pipe_10 ⟨Nat.le_of_ble_eq_true rfl, Nat.le_of_ble_eq_true rfl⟩ (fun H locs hP hD hS => ?_)
    refine lv_if_eq (tgt := 41) hx hb dX5_pipe_13 (by decide) (fun c6 => ?_) (fun c6 => ?_)
    · replace h := fp c6 h
      refine lv_ldc hx hb hown (ht _ wd_613) dX5_pipe_41 ?_
      cases h
      exact rt_i hx hb hr hlocks hS hP hK hD dX5_pipe_43
    · replace h := fn c6 h
      refine lv_iload_n hx hb dX5_pipe_16 rfl (lv_at hl 1 rfl) ?_
      refine lv_iload_n hx hb dX5_pipe_17 rfl (lv_at hl 2 rfl) ?_
      refine lv_icmp_eq (tgt := 41) hx hb dX5_pipe_18 (by decide) (fun c7 => ?_) (fun c7 => ?_)
      · replace h := fp c7 h
        refine lv_ldc hx hb hown (ht _ wd_613) dX5_pipe_41 ?_
        cases h
        exact rt_i hx hb hr hlocks hS hP hK hD dX5_pipe_43
      · replace h := fn c7 h
        refine lv_iload_n hx hb dX5_pipe_21 rfl (lv_at hl 3 rfl) ?_
        refine lv_iconst (v := (1 : Int32)) hx hb dX5_pipe_22 (by decide) ?_
        refine lv_iconst (v := (4 : Int32)) hx hb dX5_pipe_23 (by decide) ?_
        obtain ⟨u8, e9, h⟩ := b1_ok h
        refine cl_Si (ws' := (wX5 a cI cC cO M)) ⟨hx, hb, hml, hown, ht⟩ (c_X5_in l D cI cC cO x3 (1 : Int32) (4 : Int32) _ _ e9) (cwst 3 ht wd_612 wd_6 wd_610 wd_611 (by decide +kernel) rfl rfl ⟨Nat.le_of_ble_eq_true rfl, Nat.le_of_ble_eq_true rfl⟩) hK hP hD hS hA hN [] [0, 1, 2, 3, 4, 5, 6, 7, 8, 9, 10, 11, 12] [0, 1, 2, 3, 4, 5, 6, 7, 8, 9, 10, 11, 12] (by decide) rfl rfl (by decide) (by decide) rfl (by decide) rfl hl.1 rfl (Nat.le_of_ble_eq_true rfl) dX5_pipe_24 ⟨Nat.le_of_ble_eq_true rfl, Nat.le_of_ble_eq_true rfl⟩ (fun H locs hP hD hS => ?_)
        refine lv_if_eq (tgt := 41) hx hb dX5_pipe_27 (by decide) (fun c10 => ?_) (fun c10 => ?_)
        · replace h := fp c10 h
          refine lv_ldc hx hb hown (ht _ wd_613) dX5_pipe_41 ?_
          cases h
          exact rt_i hx hb hr hlocks hS hP hK hD dX5_pipe_43
        · replace h := fn c10 h
          refine lv_iload hx hb dX5_pipe_30 (lv_at hl 4 rfl) ?_
          refine lv_iconst (v := (1 : Int32)) hx hb dX5_pipe_32 (by decide) ?_
          refine lv_bipush (v := (9 : Int32)) hx hb dX5_pipe_33 (by decide) ?_
          obtain ⟨u11, e12, h⟩ := b1_ok h
          refine cl_Si (ws' := (wX5 a cI cC cO M)) ⟨hx, hb, hml, hown, ht⟩ (c_X5_in l D cI cC cO x4 (1 : Int32) (9 : Int32) _ _ e12) (cwst 3 ht wd_612 wd_6 wd_610 wd_611 (by decide +kernel) rfl rfl ⟨Nat.le_of_ble_eq_true rfl, Nat.le_of_ble_eq_true rfl⟩) hK hP hD hS hA hN [] [0, 1, 2, 3, 4, 5, 6, 7, 8, 9, 10, 11, 12] [0, 1, 2, 3, 4, 5, 6, 7, 8, 9, 10, 11, 12] (by decide) rfl rfl (by decide) (by decide) rfl (by decide) rfl hl.1 rfl (Nat.le_of_ble_eq_true rfl) dX5_pipe_35 ⟨Nat.le_of_ble_eq_true rfl, Nat.le_of_ble_eq_true rfl⟩ (fun H locs hP hD hS => ?_)
          refine lv_if_ne (tgt := 44) hx hb dX5_pipe_38 (by decide) (fun c13 => ?_) (fun c13 => ?_)
          · replace h := fn c13 h
            refine lv_aload_n hx hb dX5_pipe_44 rfl (lv_at hl 0 rfl) ?_
            obtain ⟨M14, e15, h⟩ := b1_ok h
            refine cl_Vv (ws' := (wX5 a cI cC cO M14)) ⟨hx, hb, hml, hown, ht⟩ (c_X5_keeps l D cI cC cO a M _ _ e15) (cwv 0 ht wd_617 wd_6 wd_614 wd_616 ws_20 (by decide +kernel) rfl rfl ⟨Nat.le_of_ble_eq_true rfl, Nat.le_of_ble_eq_true rfl⟩) 5 0 rfl rfl rfl hK hP hD hS hA hN [0, 1, 2, 3, 4, 5, 6, 7, 8, 9, 10, 11, 12] [] [0, 1, 2, 3, 4, 5, 6, 7, 8, 9, 10, 11, 12] (by decide) rfl rfl (by decide) (by decide) rfl (by decide) rfl hl.1 rfl (Nat.le_of_ble_eq_true rfl) dX5_pipe_45 ⟨Nat.le_of_ble_eq_true rfl, Nat.le_of_ble_eq_true rfl⟩ (fun H locs hP hD hS => ?_)
            refine lv_aload_n hx hb dX5_pipe_48 rfl (lv_at hl 0 rfl) ?_
            refine lv_aload_n hx hb dX5_pipe_49 rfl (lv_at hl 0 rfl) ?_
            refine lv_iload_n hx hb dX5_pipe_50 rfl (lv_at hl 1 rfl) ?_
            refine lv_iload_n hx hb dX5_pipe_51 rfl (lv_at hl 2 rfl) ?_
            refine lv_iload_n hx hb dX5_pipe_52 rfl (lv_at hl 3 rfl) ?_
            refine lv_iload hx hb dX5_pipe_53 (lv_at hl 4 rfl) ?_
            obtain ⟨u16, M17, e18, h⟩ := b2_ok h
            refine cl_Vi (ws' := (wX5 a cI cC cO M17)) ⟨hx, hb, hml, hown, ht⟩ (c_X5_lays l D cI cC cO a M14 x1 x2 x3 x4 _ _ e18) (cwv 4 ht wd_638 wd_6 wd_635 wd_637 ws_24 (by decide +kernel) rfl rfl ⟨Nat.le_of_ble_eq_true rfl, Nat.le_of_ble_eq_true rfl⟩) 5 0 rfl rfl rfl hK hP hD hS hA hN [0, 1, 2, 3, 4, 5, 6, 7, 8, 9, 10, 11, 12] [] [0, 1, 2, 3, 4, 5, 6, 7, 8, 9, 10, 11, 12] (by decide) rfl rfl (by decide) (by decide) rfl (by decide) rfl hl.1 rfl (Nat.le_of_ble_eq_true rfl) dX5_pipe_55 ⟨Nat.le_of_ble_eq_true rfl, Nat.le_of_ble_eq_true rfl⟩ (fun H locs hP hD hS => ?_)
            obtain ⟨u19, M20, e21, h⟩ := b2_ok h
            refine cl_Vi (ws' := (wX5 a cI cC cO M20)) ⟨hx, hb, hml, hown, ht⟩ (c_X5_acted l D cI cC cO a M17 u16 _ _ e21) (cwv 1 ht wd_626 wd_6 wd_623 wd_625 ws_22 (by decide +kernel) rfl rfl ⟨Nat.le_of_ble_eq_true rfl, Nat.le_of_ble_eq_true rfl⟩) 5 0 rfl rfl rfl hK hP hD hS hA hN [0, 1, 2, 3, 4, 5, 6, 7, 8, 9, 10, 11, 12] [] [0, 1, 2, 3, 4, 5, 6, 7, 8, 9, 10, 11, 12] (by decide) rfl rfl (by decide) (by decide) rfl (by decide) rfl hl.1 rfl (Nat.le_of_ble_eq_true rfl) dX5_pipe_58 ⟨Nat.le_of_ble_eq_true rfl, Nat.le_of_ble_eq_true rfl⟩ (fun H locs hP hD hS => ?_)
            cases h
            exact rt_i hx hb hr hlocks hS hP hK hD dX5_pipe_61
          · replace h := fp c13 h
            refine lv_ldc hx hb hown (ht _ wd_613) dX5_pipe_41 ?_
            cases h
            exact rt_i hx hb hr hlocks hS hP hK hD dX5_pipe_43
theorem dX5_dropPipe_0 : decode cX5_dropPipe 0 = .ok (.aload_n 0, 1) := by decide +kernel
theorem dX5_dropPipe_1 : decode cX5_dropPipe 1 = .ok (.iload_n 1, 1) := by decide +kernel
theorem dX5_dropPipe_2 : decode cX5_dropPipe 2 = .ok (.invokevirtual 91, 3) := by decide +kernel
theorem dX5_dropPipe_5 : decode cX5_dropPipe 5 = .ok (.ifCond .ne 6, 3) := by decide +kernel
theorem dX5_dropPipe_8 : decode cX5_dropPipe 8 = .ok (.ldc 67, 2) := by decide +kernel
theorem dX5_dropPipe_10 : decode cX5_dropPipe 10 = .ok (.ireturn, 1) := by decide +kernel
theorem dX5_dropPipe_11 : decode cX5_dropPipe 11 = .ok (.aload_n 0, 1) := by decide +kernel
theorem dX5_dropPipe_12 : decode cX5_dropPipe 12 = .ok (.invokevirtual 72, 3) := by decide +kernel
theorem dX5_dropPipe_15 : decode cX5_dropPipe 15 = .ok (.aload_n 0, 1) := by decide +kernel
theorem dX5_dropPipe_16 : decode cX5_dropPipe 16 = .ok (.getfield 7, 3) := by decide +kernel
theorem dX5_dropPipe_19 : decode cX5_dropPipe 19 = .ok (.iconst 1, 1) := by decide +kernel
theorem dX5_dropPipe_20 : decode cX5_dropPipe 20 = .ok (.dup2, 1) := by decide +kernel
theorem dX5_dropPipe_21 : decode cX5_dropPipe 21 = .ok (.iaload, 1) := by decide +kernel
theorem dX5_dropPipe_22 : decode cX5_dropPipe 22 = .ok (.iconst 1, 1) := by decide +kernel
theorem dX5_dropPipe_23 : decode cX5_dropPipe 23 = .ok (.isub, 1) := by decide +kernel
theorem dX5_dropPipe_24 : decode cX5_dropPipe 24 = .ok (.iastore, 1) := by decide +kernel
theorem dX5_dropPipe_25 : decode cX5_dropPipe 25 = .ok (.bipush 6, 2) := by decide +kernel
theorem dX5_dropPipe_27 : decode cX5_dropPipe 27 = .ok (.iload_n 1, 1) := by decide +kernel
theorem dX5_dropPipe_28 : decode cX5_dropPipe 28 = .ok (.imul, 1) := by decide +kernel
theorem dX5_dropPipe_29 : decode cX5_dropPipe 29 = .ok (.istore_n 2, 1) := by decide +kernel
theorem dX5_dropPipe_30 : decode cX5_dropPipe 30 = .ok (.iload_n 2, 1) := by decide +kernel
theorem dX5_dropPipe_31 : decode cX5_dropPipe 31 = .ok (.bipush 6, 2) := by decide +kernel
theorem dX5_dropPipe_33 : decode cX5_dropPipe 33 = .ok (.aload_n 0, 1) := by decide +kernel
theorem dX5_dropPipe_34 : decode cX5_dropPipe 34 = .ok (.getfield 7, 3) := by decide +kernel
theorem dX5_dropPipe_37 : decode cX5_dropPipe 37 = .ok (.iconst 1, 1) := by decide +kernel
theorem dX5_dropPipe_38 : decode cX5_dropPipe 38 = .ok (.iaload, 1) := by decide +kernel
theorem dX5_dropPipe_39 : decode cX5_dropPipe 39 = .ok (.imul, 1) := by decide +kernel
theorem dX5_dropPipe_40 : decode cX5_dropPipe 40 = .ok (.if_icmp .ge 30, 3) := by decide +kernel
theorem dX5_dropPipe_43 : decode cX5_dropPipe 43 = .ok (.aload_n 0, 1) := by decide +kernel
theorem dX5_dropPipe_44 : decode cX5_dropPipe 44 = .ok (.getfield 7, 3) := by decide +kernel
theorem dX5_dropPipe_47 : decode cX5_dropPipe 47 = .ok (.bipush 14, 2) := by decide +kernel
theorem dX5_dropPipe_49 : decode cX5_dropPipe 49 = .ok (.iload_n 2, 1) := by decide +kernel
theorem dX5_dropPipe_50 : decode cX5_dropPipe 50 = .ok (.iadd, 1) := by decide +kernel
theorem dX5_dropPipe_51 : decode cX5_dropPipe 51 = .ok (.aload_n 0, 1) := by decide +kernel
theorem dX5_dropPipe_52 : decode cX5_dropPipe 52 = .ok (.getfield 7, 3) := by decide +kernel
theorem dX5_dropPipe_55 : decode cX5_dropPipe 55 = .ok (.bipush 14, 2) := by decide +kernel
theorem dX5_dropPipe_57 : decode cX5_dropPipe 57 = .ok (.iload_n 2, 1) := by decide +kernel
theorem dX5_dropPipe_58 : decode cX5_dropPipe 58 = .ok (.iadd, 1) := by decide +kernel
theorem dX5_dropPipe_59 : decode cX5_dropPipe 59 = .ok (.bipush 6, 2) := by decide +kernel
theorem dX5_dropPipe_61 : decode cX5_dropPipe 61 = .ok (.iadd, 1) := by decide +kernel
theorem dX5_dropPipe_62 : decode cX5_dropPipe 62 = .ok (.iaload, 1) := by decide +kernel
theorem dX5_dropPipe_63 : decode cX5_dropPipe 63 = .ok (.iastore, 1) := by decide +kernel
theorem dX5_dropPipe_64 : decode cX5_dropPipe 64 = .ok (.iinc 2 1, 3) := by decide +kernel
theorem dX5_dropPipe_67 : decode cX5_dropPipe 67 = .ok (.goto (-37), 3) := by decide +kernel
theorem dX5_dropPipe_70 : decode cX5_dropPipe 70 = .ok (.aload_n 0, 1) := by decide +kernel
theorem dX5_dropPipe_71 : decode cX5_dropPipe 71 = .ok (.aload_n 0, 1) := by decide +kernel
theorem dX5_dropPipe_72 : decode cX5_dropPipe 72 = .ok (.getfield 7, 3) := by decide +kernel
theorem dX5_dropPipe_75 : decode cX5_dropPipe 75 = .ok (.iconst 1, 1) := by decide +kernel
theorem dX5_dropPipe_76 : decode cX5_dropPipe 76 = .ok (.iaload, 1) := by decide +kernel
theorem dX5_dropPipe_77 : decode cX5_dropPipe 77 = .ok (.invokevirtual 79, 3) := by decide +kernel
theorem dX5_dropPipe_80 : decode cX5_dropPipe 80 = .ok (.ireturn, 1) := by decide +kernel
set_option maxHeartbeats 4000000 in
set_option maxRecDepth 100000 in
theorem c_X5_dropPipe (l : Launch) (D : va_G) (cI cC cO : ClassId) (a : Nat → Nat) (M : Mm) (x1 : Int32) (res : Int32 × Mm) (sz : Nat) (h : F_X5_dropPipe M x1 = some res) : Met l yX5_dropPipe (Cond.code yX5_dropPipe cX5_dropPipe 3 (Option.some Jvm.ClassFile.FieldType.int) :: lw_g) ({ frames := 2, cells := 0, slots := 0, locals := 43 } : Room) (va_Pc [.ref (a 0), .int x1] (pS D cI cC cO sz (wX5 a cI cC cO M))) (QI D cI cC cO (va_A (wX5 a cI cC cO M) sz) (wX5 a cI cC cO res.2) res.1) 0 0 (va_A (wX5 a cI cC cO M) sz) := by
  refine Met.ofW (cc := cX5_dropPipe) (maxL := 3) (ret := (Option.some Jvm.ClassFile.FieldType.int)) (by decide) rfl ?_
  intro p e s m args below meth c s₁ B hml hv
  obtain ⟨rfl, rfl, hP, hK, hD0, hN⟩ := hv
  have hx := B.exec
  have hb := B.bytes
  have hr := B.returns
  have ht : ∀ w ∈ lw_g, w.before ([.ref (a 0), .int x1] : List Value).toArray s = true := fun w hw => atoms_spec (ws := Cond.code yX5_dropPipe cX5_dropPipe 3 (Option.some Jvm.ClassFile.FieldType.int) :: lw_g) B.pre w (List.mem_cons_of_mem _ hw)
  have hown : s.vm.findClass RX5 = some m.cls := findClass_of_methodNamed B.named
  have hlocks := B.notSynchronized
  have hD := hD0.self (sz := s.heap.size)
  generalize hAe : va_A (wX5 a cI cC cO M) s.heap.size = A at hD ⊢
  have hA : ∀ q : Nat, s.heap.size ≤ q → A q := fun q hq => by rw [← hAe]; exact Or.inr hq
  have hS : va_S A s.heap s.heap [] := va_S.rf
  have hl := lv_entry ([.ref (a 0), .int x1]) (n := 3) (Nat.le_of_ble_eq_true rfl)
  rw [lg_entry_eq]
  generalize (lg_sl ([.ref (a 0), .int x1]) ++ List.replicate (3 - (lg_sl ([.ref (a 0), .int x1])).length) Slot.unset).toArray = ls at hl ⊢
  have hl : lv_has ls 3 [(0, .ref (a 0)), (1, .int x1)] := hl
  have w30 : ∀ (n30 : Nat) (M : Mm) (y2 : Int32) (H : Heap) (locs : List Loc) (ls : Array Slot), F_X5_dropPipe_30 n30 M y2 = some res → va_P D classes (wX5 a cI cC cO M) H → va_D A (wX5 a cI cC cO M) → va_S A s.heap H locs → lv_has ls 3 [(0, .ref (a 0)), (2, .int y2)] → W p l e ({ frames := 2, cells := 0, slots := 0, locals := 43 } : Room) s m ([.ref (a 0), .int x1] : List Value).toArray below meth c H locs 0 0 (MQ below (QI D cI cC cO A (wX5 a cI cC cO res.2) res.1) ([.ref (a 0), .int x1] : List Value).toArray s 0 0 A) (F0 m 30 ls []) := by
    intro n30
    induction n30 with
    | zero => intro M y2 H locs ls h hP hD hS hl; exact absurd (show (none : Option (Int32 × Mm)) = some res from h) (by simp)
    | succ n30 ih30 =>
      intro M y2 H locs ls h hP hD hS hl
      have h : F_X5_dropPipeB_30 (F_X5_dropPipe_30 n30) M y2 = some res := h
      unfold F_X5_dropPipeB_30 at h
      refine lv_iload_n hx hb dX5_dropPipe_30 rfl (lv_at hl 1 rfl) ?_
      refine lv_bipush (v := (6 : Int32)) hx hb dX5_dropPipe_31 (by decide) ?_
      refine lv_aload_n hx hb dX5_dropPipe_33 rfl (lv_at hl 0 rfl) ?_
      refine va_get (D := D) (ci := 5) (v := .ref (a 1)) (C := RX5) (T := TX5) (N := 23) hx hb ht i_X5 hown hK hP 0 rfl rfl 0 (by decide) (ht _ wd_536) (fun _ h9 => h9) rfl dX5_dropPipe_34 ?_
      refine lv_iconst (v := (1 : Int32)) hx hb dX5_dropPipe_37 (by decide) ?_
      obtain ⟨i1, h⟩ := ck_ok h
      refine va_iald hx hb hK hP 1 0 rfl rfl i1 dX5_dropPipe_38 ?_
      refine lv_imul hx hb dX5_dropPipe_39 ?_
      refine lv_icmp_ge (tgt := 70) hx hb dX5_dropPipe_40 (by decide) (fun c2 => ?_) (fun c2 => ?_)
      · replace h := fp c2 h
        refine lv_aload_n hx hb dX5_dropPipe_70 rfl (lv_at hl 0 rfl) ?_
        refine lv_aload_n hx hb dX5_dropPipe_71 rfl (lv_at hl 0 rfl) ?_
        refine va_get (D := D) (ci := 5) (v := .ref (a 1)) (C := RX5) (T := TX5) (N := 23) hx hb ht i_X5 hown hK hP 0 rfl rfl 0 (by decide) (ht _ wd_536) (fun _ h9 => h9) rfl dX5_dropPipe_72 ?_
        refine lv_iconst (v := (1 : Int32)) hx hb dX5_dropPipe_75 (by decide) ?_
        obtain ⟨i3, h⟩ := ck_ok h
        refine va_iald hx hb hK hP 1 0 rfl rfl i3 dX5_dropPipe_76 ?_
        obtain ⟨u4, M5, e6, h⟩ := b2_ok h
        refine cl_Vi (ws' := (wX5 a cI cC cO M5)) ⟨hx, hb, hml, hown, ht⟩ (c_X5_acted l D cI cC cO a M (M 0 (1 : Int32).toNatClampNeg) _ _ e6) (cwv 1 ht wd_626 wd_6 wd_623 wd_625 ws_22 (by decide +kernel) rfl rfl ⟨Nat.le_of_ble_eq_true rfl, Nat.le_of_ble_eq_true rfl⟩) 5 0 rfl rfl rfl hK hP hD hS hA hN [0, 1, 2, 3, 4, 5, 6, 7, 8, 9, 10, 11, 12] [] [0, 1, 2, 3, 4, 5, 6, 7, 8, 9, 10, 11, 12] (by decide) rfl rfl (by decide) (by decide) rfl (by decide) rfl hl.1 rfl (Nat.le_of_ble_eq_true rfl) dX5_dropPipe_77 ⟨Nat.le_of_ble_eq_true rfl, Nat.le_of_ble_eq_true rfl⟩ (fun H locs hP hD hS => ?_)
        cases h
        exact rt_i hx hb hr hlocks hS hP hK hD dX5_dropPipe_80
      · replace h := fn c2 h
        refine lv_aload_n hx hb dX5_dropPipe_43 rfl (lv_at hl 0 rfl) ?_
        refine va_get (D := D) (ci := 5) (v := .ref (a 1)) (C := RX5) (T := TX5) (N := 23) hx hb ht i_X5 hown hK hP 0 rfl rfl 0 (by decide) (ht _ wd_536) (fun _ h9 => h9) rfl dX5_dropPipe_44 ?_
        refine lv_bipush (v := (14 : Int32)) hx hb dX5_dropPipe_47 (by decide) ?_
        refine lv_iload_n hx hb dX5_dropPipe_49 rfl (lv_at hl 1 rfl) ?_
        refine lv_iadd hx hb dX5_dropPipe_50 ?_
        refine lv_aload_n hx hb dX5_dropPipe_51 rfl (lv_at hl 0 rfl) ?_
        refine va_get (D := D) (ci := 5) (v := .ref (a 1)) (C := RX5) (T := TX5) (N := 23) hx hb ht i_X5 hown hK hP 0 rfl rfl 0 (by decide) (ht _ wd_536) (fun _ h9 => h9) rfl dX5_dropPipe_52 ?_
        refine lv_bipush (v := (14 : Int32)) hx hb dX5_dropPipe_55 (by decide) ?_
        refine lv_iload_n hx hb dX5_dropPipe_57 rfl (lv_at hl 1 rfl) ?_
        refine lv_iadd hx hb dX5_dropPipe_58 ?_
        refine lv_bipush (v := (6 : Int32)) hx hb dX5_dropPipe_59 (by decide) ?_
        refine lv_iadd hx hb dX5_dropPipe_61 ?_
        obtain ⟨i7, h⟩ := ck_ok h
        refine va_iald hx hb hK hP 1 0 rfl rfl i7 dX5_dropPipe_62 ?_
        obtain ⟨i8, h⟩ := ck_ok h
        refine va_iast hx hb hK hP hD hS 1 0 rfl rfl i8 dX5_dropPipe_63 (fun H locs hP hD hS => ?_)
        obtain ⟨M9, e10, h⟩ := sv_ok h
        have hP : va_P D classes (wX5 a cI cC cO M9) H := by rw [← e10]; exact hP
        have hD : va_D A (wX5 a cI cC cO M9) := by rw [← e10]; exact hD
        refine lv_iinc (v := (y2 + 1)) (lv' := [(2, .int (y2 + 1)), (0, .ref (a 0))]) hx hb dX5_dropPipe_64 hl (k := 1) rfl rfl (by decide) rfl (fun ls hl => ?_)
        refine lv_goto (tgt := 30) hx hb dX5_dropPipe_67 (by decide) ?_
        exact ih30 M9 (y2 + 1) _ _ ls h hP hD hS (lv_sub hl [1, 0] rfl)
  unfold F_X5_dropPipe at h
  refine lv_aload_n hx hb dX5_dropPipe_0 rfl (lv_at hl 0 rfl) ?_
  refine lv_iload_n hx hb dX5_dropPipe_1 rfl (lv_at hl 1 rfl) ?_
  obtain ⟨u1, e2, h⟩ := b1_ok h
  refine cl_Vi (ws' := (wX5 a cI cC cO M)) ⟨hx, hb, hml, hown, ht⟩ (c_X5_isPipe l D cI cC cO a M x1 _ _ e2) (cwv 1 ht wd_646 wd_6 wd_643 wd_645 ws_25 (by decide +kernel) rfl rfl ⟨Nat.le_of_ble_eq_true rfl, Nat.le_of_ble_eq_true rfl⟩) 5 0 rfl rfl rfl hK hP hD hS hA hN [0, 1, 2, 3, 4, 5, 6, 7, 8, 9, 10, 11, 12] [] [0, 1, 2, 3, 4, 5, 6, 7, 8, 9, 10, 11, 12] (by decide) rfl rfl (by decide) (by decide) rfl (by decide) rfl hl.1 rfl (Nat.le_of_ble_eq_true rfl) dX5_dropPipe_2 ⟨Nat.le_of_ble_eq_true rfl, Nat.le_of_ble_eq_true rfl⟩ (fun H locs hP hD hS => ?_)
  refine lv_if_ne (tgt := 11) hx hb dX5_dropPipe_5 (by decide) (fun c3 => ?_) (fun c3 => ?_)
  · replace h := fn c3 h
    refine lv_aload_n hx hb dX5_dropPipe_11 rfl (lv_at hl 0 rfl) ?_
    obtain ⟨M4, e5, h⟩ := b1_ok h
    refine cl_Vv (ws' := (wX5 a cI cC cO M4)) ⟨hx, hb, hml, hown, ht⟩ (c_X5_keeps l D cI cC cO a M _ _ e5) (cwv 0 ht wd_617 wd_6 wd_614 wd_616 ws_20 (by decide +kernel) rfl rfl ⟨Nat.le_of_ble_eq_true rfl, Nat.le_of_ble_eq_true rfl⟩) 5 0 rfl rfl rfl hK hP hD hS hA hN [0, 1, 2, 3, 4, 5, 6, 7, 8, 9, 10, 11, 12] [] [0, 1, 2, 3, 4, 5, 6, 7, 8, 9, 10, 11, 12] (by decide) rfl rfl (by decide) (by decide) rfl (by decide) rfl hl.1 rfl (Nat.le_of_ble_eq_true rfl) dX5_dropPipe_12 ⟨Nat.le_of_ble_eq_true rfl, Nat.le_of_ble_eq_true rfl⟩ (fun H locs hP hD hS => ?_)
    refine lv_aload_n hx hb dX5_dropPipe_15 rfl (lv_at hl 0 rfl) ?_
    refine va_get (D := D) (ci := 5) (v := .ref (a 1)) (C := RX5) (T := TX5) (N := 23) hx hb ht i_X5 hown hK hP 0 rfl rfl 0 (by decide) (ht _ wd_536) (fun _ h9 => h9) rfl dX5_dropPipe_16 ?_
    refine lv_iconst (v := (1 : Int32)) hx hb dX5_dropPipe_19 (by decide) ?_
    refine lv_dup2_11 hx hb dX5_dropPipe_20 rfl rfl ?_
    obtain ⟨i6, h⟩ := ck_ok h
    refine va_iald hx hb hK hP 1 0 rfl rfl i6 dX5_dropPipe_21 ?_
    refine lv_iconst (v := (1 : Int32)) hx hb dX5_dropPipe_22 (by decide) ?_
    refine lv_isub hx hb dX5_dropPipe_23 ?_
    obtain ⟨i7, h⟩ := ck_ok h
    refine va_iast hx hb hK hP hD hS 1 0 rfl rfl i7 dX5_dropPipe_24 (fun H locs hP hD hS => ?_)
    obtain ⟨M8, e9, h⟩ := sv_ok h
    have hP : va_P D classes (wX5 a cI cC cO M8) H := by rw [← e9]; exact hP
    have hD : va_D A (wX5 a cI cC cO M8) := by rw [← e9]; exact hD
    refine lv_bipush (v := (6 : Int32)) hx hb dX5_dropPipe_25 (by decide) ?_
    refine lv_iload_n hx hb dX5_dropPipe_27 rfl (lv_at hl 1 rfl) ?_
    refine lv_imul hx hb dX5_dropPipe_28 ?_
    refine lv_istore_n (lv' := [(2, .int ((6 : Int32) * x1)), (0, .ref (a 0)), (1, .int x1)]) hx hb dX5_dropPipe_29 rfl hl (by decide) rfl (fun ls hl => ?_)
    exact w30 FU M8 ((6 : Int32) * x1) _ _ ls h hP hD hS (lv_sub hl [1, 0] rfl)
  · replace h := fp c3 h
    refine lv_ldc hx hb hown (ht _ wd_613) dX5_dropPipe_8 ?_
    cases h
    exact rt_i hx hb hr hlocks hS hP hK hD dX5_dropPipe_10
theorem dX5_opens_0 : decode cX5_opens 0 = .ok (.aload_n 0, 1) := by decide +kernel
theorem dX5_opens_1 : decode cX5_opens 1 = .ok (.getfield 7, 3) := by decide +kernel
theorem dX5_opens_4 : decode cX5_opens 4 = .ok (.bipush 14, 2) := by decide +kernel
theorem dX5_opens_6 : decode cX5_opens 6 = .ok (.bipush 6, 2) := by decide +kernel
theorem dX5_opens_8 : decode cX5_opens 8 = .ok (.iload_n 1, 1) := by decide +kernel
theorem dX5_opens_9 : decode cX5_opens 9 = .ok (.imul, 1) := by decide +kernel
theorem dX5_opens_10 : decode cX5_opens 10 = .ok (.iadd, 1) := by decide +kernel
theorem dX5_opens_11 : decode cX5_opens 11 = .ok (.iconst 4, 1) := by decide +kernel
theorem dX5_opens_12 : decode cX5_opens 12 = .ok (.iadd, 1) := by decide +kernel
theorem dX5_opens_13 : decode cX5_opens 13 = .ok (.iload_n 2, 1) := by decide +kernel
theorem dX5_opens_14 : decode cX5_opens 14 = .ok (.iastore, 1) := by decide +kernel
theorem dX5_opens_15 : decode cX5_opens 15 = .ok (.aload_n 0, 1) := by decide +kernel
theorem dX5_opens_16 : decode cX5_opens 16 = .ok (.getfield 7, 3) := by decide +kernel
theorem dX5_opens_19 : decode cX5_opens 19 = .ok (.bipush 14, 2) := by decide +kernel
theorem dX5_opens_21 : decode cX5_opens 21 = .ok (.bipush 6, 2) := by decide +kernel
theorem dX5_opens_23 : decode cX5_opens 23 = .ok (.iload_n 1, 1) := by decide +kernel
theorem dX5_opens_24 : decode cX5_opens 24 = .ok (.imul, 1) := by decide +kernel
theorem dX5_opens_25 : decode cX5_opens 25 = .ok (.iadd, 1) := by decide +kernel
theorem dX5_opens_26 : decode cX5_opens 26 = .ok (.iconst 5, 1) := by decide +kernel
theorem dX5_opens_27 : decode cX5_opens 27 = .ok (.iadd, 1) := by decide +kernel
theorem dX5_opens_28 : decode cX5_opens 28 = .ok (.iload_n 3, 1) := by decide +kernel
theorem dX5_opens_29 : decode cX5_opens 29 = .ok (.iastore, 1) := by decide +kernel
theorem dX5_opens_30 : decode cX5_opens 30 = .ok (.iload_n 3, 1) := by decide +kernel
theorem dX5_opens_31 : decode cX5_opens 31 = .ok (.iload_n 2, 1) := by decide +kernel
theorem dX5_opens_32 : decode cX5_opens 32 = .ok (.if_icmp .ge 7, 3) := by decide +kernel
theorem dX5_opens_35 : decode cX5_opens 35 = .ok (.iconst 0, 1) := by decide +kernel
theorem dX5_opens_36 : decode cX5_opens 36 = .ok (.goto 8, 3) := by decide +kernel
theorem dX5_opens_39 : decode cX5_opens 39 = .ok (.iload_n 3, 1) := by decide +kernel
theorem dX5_opens_40 : decode cX5_opens 40 = .ok (.iload_n 2, 1) := by decide +kernel
theorem dX5_opens_41 : decode cX5_opens 41 = .ok (.isub, 1) := by decide +kernel
theorem dX5_opens_42 : decode cX5_opens 42 = .ok (.iconst 1, 1) := by decide +kernel
theorem dX5_opens_43 : decode cX5_opens 43 = .ok (.iadd, 1) := by decide +kernel
theorem dX5_opens_44 : decode cX5_opens 44 = .ok (.ireturn, 1) := by decide +kernel
set_option maxHeartbeats 4000000 in
set_option maxRecDepth 100000 in
theorem c_X5_opens (l : Launch) (D : va_G) (cI cC cO : ClassId) (a : Nat → Nat) (M : Mm) (x1 x2 x3 : Int32) (res : Int32 × Mm) (sz : Nat) (h : F_X5_opens M x1 x2 x3 = some res) : Met l yX5_opens (Cond.code yX5_opens cX5_opens 4 (Option.some Jvm.ClassFile.FieldType.int) :: lw_g) ({ frames := 0, cells := 0, slots := 0, locals := 0 } : Room) (va_Pc [.ref (a 0), .int x1, .int x2, .int x3] (pS D cI cC cO sz (wX5 a cI cC cO M))) (QI D cI cC cO (va_A (wX5 a cI cC cO M) sz) (wX5 a cI cC cO res.2) res.1) 0 0 (va_A (wX5 a cI cC cO M) sz) := by
  refine Met.ofW (cc := cX5_opens) (maxL := 4) (ret := (Option.some Jvm.ClassFile.FieldType.int)) (by decide) rfl ?_
  intro p e s m args below meth c s₁ B hml hv
  obtain ⟨rfl, rfl, hP, hK, hD0, hN⟩ := hv
  have hx := B.exec
  have hb := B.bytes
  have hr := B.returns
  have ht : ∀ w ∈ lw_g, w.before ([.ref (a 0), .int x1, .int x2, .int x3] : List Value).toArray s = true := fun w hw => atoms_spec (ws := Cond.code yX5_opens cX5_opens 4 (Option.some Jvm.ClassFile.FieldType.int) :: lw_g) B.pre w (List.mem_cons_of_mem _ hw)
  have hown : s.vm.findClass RX5 = some m.cls := findClass_of_methodNamed B.named
  have hlocks := B.notSynchronized
  have hD := hD0.self (sz := s.heap.size)
  generalize hAe : va_A (wX5 a cI cC cO M) s.heap.size = A at hD ⊢
  have hA : ∀ q : Nat, s.heap.size ≤ q → A q := fun q hq => by rw [← hAe]; exact Or.inr hq
  have hS : va_S A s.heap s.heap [] := va_S.rf
  have hl := lv_entry ([.ref (a 0), .int x1, .int x2, .int x3]) (n := 4) (Nat.le_of_ble_eq_true rfl)
  rw [lg_entry_eq]
  generalize (lg_sl ([.ref (a 0), .int x1, .int x2, .int x3]) ++ List.replicate (4 - (lg_sl ([.ref (a 0), .int x1, .int x2, .int x3])).length) Slot.unset).toArray = ls at hl ⊢
  have hl : lv_has ls 4 [(0, .ref (a 0)), (1, .int x1), (2, .int x2), (3, .int x3)] := hl
  unfold F_X5_opens at h
  refine lv_aload_n hx hb dX5_opens_0 rfl (lv_at hl 0 rfl) ?_
  refine va_get (D := D) (ci := 5) (v := .ref (a 1)) (C := RX5) (T := TX5) (N := 23) hx hb ht i_X5 hown hK hP 0 rfl rfl 0 (by decide) (ht _ wd_536) (fun _ h9 => h9) rfl dX5_opens_1 ?_
  refine lv_bipush (v := (14 : Int32)) hx hb dX5_opens_4 (by decide) ?_
  refine lv_bipush (v := (6 : Int32)) hx hb dX5_opens_6 (by decide) ?_
  refine lv_iload_n hx hb dX5_opens_8 rfl (lv_at hl 1 rfl) ?_
  refine lv_imul hx hb dX5_opens_9 ?_
  refine lv_iadd hx hb dX5_opens_10 ?_
  refine lv_iconst (v := (4 : Int32)) hx hb dX5_opens_11 (by decide) ?_
  refine lv_iadd hx hb dX5_opens_12 ?_
  refine lv_iload_n hx hb dX5_opens_13 rfl (lv_at hl 2 rfl) ?_
  obtain ⟨i1, h⟩ := ck_ok h
  refine va_iast hx hb hK hP hD hS 1 0 rfl rfl i1 dX5_opens_14 (fun H locs hP hD hS => ?_)
  obtain ⟨M2, e3, h⟩ := sv_ok h
  have hP : va_P D classes (wX5 a cI cC cO M2) H := by rw [← e3]; exact hP
  have hD : va_D A (wX5 a cI cC cO M2) := by rw [← e3]; exact hD
  refine lv_aload_n hx hb dX5_opens_15 rfl (lv_at hl 0 rfl) ?_
  refine va_get (D := D) (ci := 5) (v := .ref (a 1)) (C := RX5) (T := TX5) (N := 23) hx hb ht i_X5 hown hK hP 0 rfl rfl 0 (by decide) (ht _ wd_536) (fun _ h9 => h9) rfl dX5_opens_16 ?_
  refine lv_bipush (v := (14 : Int32)) hx hb dX5_opens_19 (by decide) ?_
  refine lv_bipush (v := (6 : Int32)) hx hb dX5_opens_21 (by decide) ?_
  refine lv_iload_n hx hb dX5_opens_23 rfl (lv_at hl 1 rfl) ?_
  refine lv_imul hx hb dX5_opens_24 ?_
  refine lv_iadd hx hb dX5_opens_25 ?_
  refine lv_iconst (v := (5 : Int32)) hx hb dX5_opens_26 (by decide) ?_
  refine lv_iadd hx hb dX5_opens_27 ?_
  refine lv_iload_n hx hb dX5_opens_28 rfl (lv_at hl 3 rfl) ?_
  obtain ⟨i4, h⟩ := ck_ok h
  refine va_iast hx hb hK hP hD hS 1 0 rfl rfl i4 dX5_opens_29 (fun H locs hP hD hS => ?_)
  obtain ⟨M5, e6, h⟩ := sv_ok h
  have hP : va_P D classes (wX5 a cI cC cO M5) H := by rw [← e6]; exact hP
  have hD : va_D A (wX5 a cI cC cO M5) := by rw [← e6]; exact hD
  refine lv_iload_n hx hb dX5_opens_30 rfl (lv_at hl 3 rfl) ?_
  refine lv_iload_n hx hb dX5_opens_31 rfl (lv_at hl 2 rfl) ?_
  refine lv_icmp_ge (tgt := 39) hx hb dX5_opens_32 (by decide) (fun c7 => ?_) (fun c7 => ?_)
  · replace h := fp c7 h
    refine lv_iload_n hx hb dX5_opens_39 rfl (lv_at hl 3 rfl) ?_
    refine lv_iload_n hx hb dX5_opens_40 rfl (lv_at hl 2 rfl) ?_
    refine lv_isub hx hb dX5_opens_41 ?_
    refine lv_iconst (v := (1 : Int32)) hx hb dX5_opens_42 (by decide) ?_
    refine lv_iadd hx hb dX5_opens_43 ?_
    cases h
    exact rt_i hx hb hr hlocks hS hP hK hD dX5_opens_44
  · replace h := fn c7 h
    refine lv_iconst (v := (0 : Int32)) hx hb dX5_opens_35 (by decide) ?_
    refine lv_goto (tgt := 44) hx hb dX5_opens_36 (by decide) ?_
    cases h
    exact rt_i hx hb hr hlocks hS hP hK hD dX5_opens_44
