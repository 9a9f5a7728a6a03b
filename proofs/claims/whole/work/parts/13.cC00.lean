theorem dX1_copyFrom_0 : decode cX1_copyFrom 0 = .ok (.aload_n 1, 1) := by decide +kernel
theorem dX1_copyFrom_1 : decode cX1_copyFrom 1 = .ok (.getfield 9, 3) := by decide +kernel
theorem dX1_copyFrom_4 : decode cX1_copyFrom 4 = .ok (.iconst 0, 1) := by decide +kernel
theorem dX1_copyFrom_5 : decode cX1_copyFrom 5 = .ok (.aload_n 0, 1) := by decide +kernel
theorem dX1_copyFrom_6 : decode cX1_copyFrom 6 = .ok (.getfield 9, 3) := by decide +kernel
theorem dX1_copyFrom_9 : decode cX1_copyFrom 9 = .ok (.iconst 0, 1) := by decide +kernel
theorem dX1_copyFrom_10 : decode cX1_copyFrom 10 = .ok (.bipush 6, 2) := by decide +kernel
theorem dX1_copyFrom_12 : decode cX1_copyFrom 12 = .ok (.invokestatic 28, 3) := by decide +kernel
theorem dX1_copyFrom_15 : decode cX1_copyFrom 15 = .ok (.aload_n 1, 1) := by decide +kernel
theorem dX1_copyFrom_16 : decode cX1_copyFrom 16 = .ok (.getfield 15, 3) := by decide +kernel
theorem dX1_copyFrom_19 : decode cX1_copyFrom 19 = .ok (.iconst 0, 1) := by decide +kernel
theorem dX1_copyFrom_20 : decode cX1_copyFrom 20 = .ok (.aload_n 0, 1) := by decide +kernel
theorem dX1_copyFrom_21 : decode cX1_copyFrom 21 = .ok (.getfield 15, 3) := by decide +kernel
theorem dX1_copyFrom_24 : decode cX1_copyFrom 24 = .ok (.iconst 0, 1) := by decide +kernel
theorem dX1_copyFrom_25 : decode cX1_copyFrom 25 = .ok (.bipush 6, 2) := by decide +kernel
theorem dX1_copyFrom_27 : decode cX1_copyFrom 27 = .ok (.invokestatic 28, 3) := by decide +kernel
theorem dX1_copyFrom_30 : decode cX1_copyFrom 30 = .ok (.aload_n 1, 1) := by decide +kernel
theorem dX1_copyFrom_31 : decode cX1_copyFrom 31 = .ok (.getfield 18, 3) := by decide +kernel
theorem dX1_copyFrom_34 : decode cX1_copyFrom 34 = .ok (.iconst 0, 1) := by decide +kernel
theorem dX1_copyFrom_35 : decode cX1_copyFrom 35 = .ok (.aload_n 0, 1) := by decide +kernel
theorem dX1_copyFrom_36 : decode cX1_copyFrom 36 = .ok (.getfield 18, 3) := by decide +kernel
theorem dX1_copyFrom_39 : decode cX1_copyFrom 39 = .ok (.iconst 0, 1) := by decide +kernel
theorem dX1_copyFrom_40 : decode cX1_copyFrom 40 = .ok (.bipush 60, 2) := by decide +kernel
theorem dX1_copyFrom_42 : decode cX1_copyFrom 42 = .ok (.invokestatic 28, 3) := by decide +kernel
theorem dX1_copyFrom_45 : decode cX1_copyFrom 45 = .ok (.aload_n 0, 1) := by decide +kernel
theorem dX1_copyFrom_46 : decode cX1_copyFrom 46 = .ok (.aload_n 1, 1) := by decide +kernel
theorem dX1_copyFrom_47 : decode cX1_copyFrom 47 = .ok (.getfield 21, 3) := by decide +kernel
theorem dX1_copyFrom_50 : decode cX1_copyFrom 50 = .ok (.putfield 21, 3) := by decide +kernel
theorem dX1_copyFrom_53 : decode cX1_copyFrom 53 = .ok (.aload_n 0, 1) := by decide +kernel
theorem dX1_copyFrom_54 : decode cX1_copyFrom 54 = .ok (.aload_n 1, 1) := by decide +kernel
theorem dX1_copyFrom_55 : decode cX1_copyFrom 55 = .ok (.getfield 25, 3) := by decide +kernel
theorem dX1_copyFrom_58 : decode cX1_copyFrom 58 = .ok (.putfield 25, 3) := by decide +kernel
theorem dX1_copyFrom_61 : decode cX1_copyFrom 61 = .ok (.return_, 1) := by decide +kernel
set_option maxHeartbeats 4000000 in
set_option maxRecDepth 100000 in
theorem c_X1_copyFrom (l : Launch) (D : va_G) (cI cC cO : ClassId) (a : Nat → Nat) (b : Nat → Nat) (L : Mm) (O : Mm) (res : Mm) (sz : Nat) (h : F_X1_copyFrom L O = some res) : Met l yX1_copyFrom (Cond.code yX1_copyFrom cX1_copyFrom 2 (Option.none : Option Jvm.ClassFile.FieldType) :: lw_g) ({ frames := 1, cells := 0, slots := 0, locals := 60 } : Room) (va_Pc [.ref (a 0), .ref (b 0)] (pS D cI cC cO sz ((wX1 a cI cC cO L) ++ (wX1 b cI cC cO O)))) (QV D cI cC cO (va_A ((wX1 a cI cC cO L) ++ (wX1 b cI cC cO O)) sz) ((wX1 a cI cC cO res) ++ (wX1 b cI cC cO O))) 0 0 (va_A ((wX1 a cI cC cO L) ++ (wX1 b cI cC cO O)) sz) := by
  refine Met.ofW (cc := cX1_copyFrom) (maxL := 2) (ret := (Option.none : Option Jvm.ClassFile.FieldType)) (by decide) rfl ?_
  intro p e s m args below meth c s₁ B hml hv
  obtain ⟨rfl, rfl, hP, hK, hD0, hN⟩ := hv
  have hx := B.exec
  have hb := B.bytes
  have hr := B.returns
  have ht : ∀ w ∈ lw_g, w.before ([.ref (a 0), .ref (b 0)] : List Value).toArray s = true := fun w hw => atoms_spec (ws := Cond.code yX1_copyFrom cX1_copyFrom 2 (Option.none : Option Jvm.ClassFile.FieldType) :: lw_g) B.pre w (List.mem_cons_of_mem _ hw)
  have hown : s.vm.findClass RX1 = some m.cls := findClass_of_methodNamed B.named
  have hlocks := B.notSynchronized
  have hD := hD0.self (sz := s.heap.size)
  generalize hAe : va_A ((wX1 a cI cC cO L) ++ (wX1 b cI cC cO O)) s.heap.size = A at hD ⊢
  have hA : ∀ q : Nat, s.heap.size ≤ q → A q := fun q hq => by rw [← hAe]; exact Or.inr hq
  have hS : va_S A s.heap s.heap [] := va_S.rf
  have hl := lv_entry ([.ref (a 0), .ref (b 0)]) (n := 2) (Nat.le_of_ble_eq_true rfl)
  rw [lg_entry_eq]
  generalize (lg_sl ([.ref (a 0), .ref (b 0)]) ++ List.replicate (2 - (lg_sl ([.ref (a 0), .ref (b 0)])).length) Slot.unset).toArray = ls at hl ⊢
  have hl : lv_has ls 2 [(0, .ref (a 0)), (1, .ref (b 0))] := hl
  unfold F_X1_copyFrom at h
  refine lv_aload_n hx hb dX1_copyFrom_0 rfl (lv_at hl 1 rfl) ?_
  refine va_get (D := D) (ci := 1) (v := .ref (b 1)) (C := RX1) (T := TX1) (N := 5) hx hb ht i_X1 hown hK hP 4 rfl rfl 0 (by decide) (ht _ wd_24) (fun _ h9 => h9) rfl dX1_copyFrom_1 ?_
  refine lv_iconst (v := (0 : Int32)) hx hb dX1_copyFrom_4 (by decide) ?_
  refine lv_aload_n hx hb dX1_copyFrom_5 rfl (lv_at hl 0 rfl) ?_
  refine va_get (D := D) (ci := 1) (v := .ref (a 1)) (C := RX1) (T := TX1) (N := 5) hx hb ht i_X1 hown hK hP 0 rfl rfl 0 (by decide) (ht _ wd_24) (fun _ h9 => h9) rfl dX1_copyFrom_6 ?_
  refine lv_iconst (v := (0 : Int32)) hx hb dX1_copyFrom_9 (by decide) ?_
  refine lv_bipush (v := (6 : Int32)) hx hb dX1_copyFrom_10 (by decide) ?_
  obtain ⟨⟨g1a, g1b, g1c, g1d, g1e⟩, h⟩ := cp_ok h
  refine va_copyi hx hb (hml.trans hl.1.symm) hown (ht _ wd_180) (ht _ wd_182) (ht _ wd_181) (ht _ wd_7) hK hP hD hS 5 1 0 0 rfl rfl rfl rfl rfl g1a g1b g1c g1d g1e (fun _ _ => rfl) (Nat.le_of_ble_eq_true rfl) (Nat.le_of_ble_eq_true rfl) dX1_copyFrom_12 (fun H locs hP hD hS => ?_)
  obtain ⟨L2, e3, h⟩ := sv_ok h
  have hP : va_P D classes ((wX1 a cI cC cO L2) ++ (wX1 b cI cC cO O)) H := by rw [← e3]; exact hP
  have hD : va_D A ((wX1 a cI cC cO L2) ++ (wX1 b cI cC cO O)) := by rw [← e3]; exact hD
  refine lv_aload_n hx hb dX1_copyFrom_15 rfl (lv_at hl 1 rfl) ?_
  refine va_get (D := D) (ci := 1) (v := .ref (b 2)) (C := RX1) (T := TX1) (N := 5) hx hb ht i_X1 hown hK hP 4 rfl rfl 1 (by decide) (ht _ wd_28) (fun _ h9 => h9) rfl dX1_copyFrom_16 ?_
  refine lv_iconst (v := (0 : Int32)) hx hb dX1_copyFrom_19 (by decide) ?_
  refine lv_aload_n hx hb dX1_copyFrom_20 rfl (lv_at hl 0 rfl) ?_
  refine va_get (D := D) (ci := 1) (v := .ref (a 2)) (C := RX1) (T := TX1) (N := 5) hx hb ht i_X1 hown hK hP 0 rfl rfl 1 (by decide) (ht _ wd_28) (fun _ h9 => h9) rfl dX1_copyFrom_21 ?_
  refine lv_iconst (v := (0 : Int32)) hx hb dX1_copyFrom_24 (by decide) ?_
  refine lv_bipush (v := (6 : Int32)) hx hb dX1_copyFrom_25 (by decide) ?_
  obtain ⟨⟨g4a, g4b, g4c, g4d, g4e⟩, h⟩ := cp_ok h
  refine va_copyi hx hb (hml.trans hl.1.symm) hown (ht _ wd_180) (ht _ wd_182) (ht _ wd_181) (ht _ wd_7) hK hP hD hS 6 2 0 0 rfl rfl rfl rfl rfl g4a g4b g4c g4d g4e (fun _ _ => rfl) (Nat.le_of_ble_eq_true rfl) (Nat.le_of_ble_eq_true rfl) dX1_copyFrom_27 (fun H locs hP hD hS => ?_)
  obtain ⟨L5, e6, h⟩ := sv_ok h
  have hP : va_P D classes ((wX1 a cI cC cO L5) ++ (wX1 b cI cC cO O)) H := by rw [← e6]; exact hP
  have hD : va_D A ((wX1 a cI cC cO L5) ++ (wX1 b cI cC cO O)) := by rw [← e6]; exact hD
  refine lv_aload_n hx hb dX1_copyFrom_30 rfl (lv_at hl 1 rfl) ?_
  refine va_get (D := D) (ci := 1) (v := .ref (b 3)) (C := RX1) (T := TX1) (N := 5) hx hb ht i_X1 hown hK hP 4 rfl rfl 2 (by decide) (ht _ wd_31) (fun _ h9 => h9) rfl dX1_copyFrom_31 ?_
  refine lv_iconst (v := (0 : Int32)) hx hb dX1_copyFrom_34 (by decide) ?_
  refine lv_aload_n hx hb dX1_copyFrom_35 rfl (lv_at hl 0 rfl) ?_
  refine va_get (D := D) (ci := 1) (v := .ref (a 3)) (C := RX1) (T := TX1) (N := 5) hx hb ht i_X1 hown hK hP 0 rfl rfl 2 (by decide) (ht _ wd_31) (fun _ h9 => h9) rfl dX1_copyFrom_36 ?_
  refine lv_iconst (v := (0 : Int32)) hx hb dX1_copyFrom_39 (by decide) ?_
  refine lv_bipush (v := (60 : Int32)) hx hb dX1_copyFrom_40 (by decide) ?_
  obtain ⟨⟨g7a, g7b, g7c, g7d, g7e⟩, h⟩ := cp_ok h
  refine va_copyi hx hb (hml.trans hl.1.symm) hown (ht _ wd_180) (ht _ wd_182) (ht _ wd_181) (ht _ wd_7) hK hP hD hS 7 3 0 0 rfl rfl rfl rfl rfl g7a g7b g7c g7d g7e (fun _ _ => rfl) (Nat.le_of_ble_eq_true rfl) (Nat.le_of_ble_eq_true rfl) dX1_copyFrom_42 (fun H locs hP hD hS => ?_)
  obtain ⟨L8, e9, h⟩ := sv_ok h
  have hP : va_P D classes ((wX1 a cI cC cO L8) ++ (wX1 b cI cC cO O)) H := by rw [← e9]; exact hP
  have hD : va_D A ((wX1 a cI cC cO L8) ++ (wX1 b cI cC cO O)) := by rw [← e9]; exact hD
  refine lv_aload_n hx hb dX1_copyFrom_45 rfl (lv_at hl 0 rfl) ?_
  refine lv_aload_n hx hb dX1_copyFrom_46 rfl (lv_at hl 1 rfl) ?_
  refine va_get (D := D) (ci := 1) (v := .int (O 3 0)) (C := RX1) (T := TX1) (N := 5) hx hb ht i_X1 hown hK hP 4 rfl rfl 3 (by decide) (ht _ wd_32) (fun _ h9 => h9) rfl dX1_copyFrom_47 ?_
  refine va_put (D := D) (ci := 1) (v := .int (O 3 0)) (ty := .int) (C := RX1) (T := TX1) (N := 5) hx hb ht i_X1 tyX1 tyX1_ok nmX1 hown hK hP hD hS 0 rfl rfl 3 (by decide) (ht _ wd_32) (fun _ h9 => h9) rfl (by decide +kernel) rfl rfl (Nat.le_of_ble_eq_true rfl) dX1_copyFrom_50 (fun H locs hP hD hS => ?_)
  obtain ⟨L10, e11, h⟩ := sv_ok h
  have hP : va_P D classes ((wX1 a cI cC cO L10) ++ (wX1 b cI cC cO O)) H := by rw [← e11]; exact hP
  have hD : va_D A ((wX1 a cI cC cO L10) ++ (wX1 b cI cC cO O)) := by rw [← e11]; exact hD
  refine lv_aload_n hx hb dX1_copyFrom_53 rfl (lv_at hl 0 rfl) ?_
  refine lv_aload_n hx hb dX1_copyFrom_54 rfl (lv_at hl 1 rfl) ?_
  refine va_get (D := D) (ci := 1) (v := .int (O 3 1)) (C := RX1) (T := TX1) (N := 5) hx hb ht i_X1 hown hK hP 4 rfl rfl 4 (by decide) (ht _ wd_35) (fun _ h9 => h9) rfl dX1_copyFrom_55 ?_
  refine va_put (D := D) (ci := 1) (v := .int (O 3 1)) (ty := .int) (C := RX1) (T := TX1) (N := 5) hx hb ht i_X1 tyX1 tyX1_ok nmX1 hown hK hP hD hS 0 rfl rfl 4 (by decide) (ht _ wd_35) (fun _ h9 => h9) rfl (by decide +kernel) rfl rfl (Nat.le_of_ble_eq_true rfl) dX1_copyFrom_58 (fun H locs hP hD hS => ?_)
  obtain ⟨L12, e13, h⟩ := sv_ok h
  have hP : va_P D classes ((wX1 a cI cC cO L12) ++ (wX1 b cI cC cO O)) H := by rw [← e13]; exact hP
  have hD : va_D A ((wX1 a cI cC cO L12) ++ (wX1 b cI cC cO O)) := by rw [← e13]; exact hD
  cases h
  exact rt_v hx hb hr hlocks hS hP hK hD dX1_copyFrom_61
theorem dX4_within_0 : decode cX4_within 0 = .ok (.iload_n 0, 1) := by decide +kernel
theorem dX4_within_1 : decode cX4_within 1 = .ok (.iload_n 1, 1) := by decide +kernel
theorem dX4_within_2 : decode cX4_within 2 = .ok (.if_icmp .lt 12, 3) := by decide +kernel
theorem dX4_within_5 : decode cX4_within 5 = .ok (.iload_n 0, 1) := by decide +kernel
theorem dX4_within_6 : decode cX4_within 6 = .ok (.iload_n 2, 1) := by decide +kernel
theorem dX4_within_7 : decode cX4_within 7 = .ok (.if_icmp .gt 7, 3) := by decide +kernel
theorem dX4_within_10 : decode cX4_within 10 = .ok (.iconst 1, 1) := by decide +kernel
theorem dX4_within_11 : decode cX4_within 11 = .ok (.goto 4, 3) := by decide +kernel
theorem dX4_within_14 : decode cX4_within 14 = .ok (.iconst 0, 1) := by decide +kernel
theorem dX4_within_15 : decode cX4_within 15 = .ok (.ireturn, 1) := by decide +kernel
set_option maxHeartbeats 4000000 in
set_option maxRecDepth 100000 in
theorem c_X4_within (l : Launch) (D : va_G) (cI cC cO : ClassId) (x0 x1 x2 : Int32) (res : Int32) (sz : Nat) (h : F_X4_within x0 x1 x2 = some res) : Met l yX4_within (Cond.code yX4_within cX4_within 3 (Option.some Jvm.ClassFile.FieldType.boolean) :: lw_g) ({ frames := 0, cells := 0, slots := 0, locals := 0 } : Room) (va_Pc [.int x0, .int x1, .int x2] (pS D cI cC cO sz ([] : va_W))) (QI D cI cC cO (va_A ([] : va_W) sz) ([] : va_W) res) 0 0 (va_A ([] : va_W) sz) := by
  refine Met.ofW (cc := cX4_within) (maxL := 3) (ret := (Option.some Jvm.ClassFile.FieldType.boolean)) (by decide) rfl ?_
  intro p e s m args below meth c s₁ B hml hv
  obtain ⟨rfl, rfl, hP, hK, hD0, hN⟩ := hv
  have hx := B.exec
  have hb := B.bytes
  have hr := B.returns
  have ht : ∀ w ∈ lw_g, w.before ([.int x0, .int x1, .int x2] : List Value).toArray s = true := fun w hw => atoms_spec (ws := Cond.code yX4_within cX4_within 3 (Option.some Jvm.ClassFile.FieldType.boolean) :: lw_g) B.pre w (List.mem_cons_of_mem _ hw)
  have hown : s.vm.findClass RX4 = some m.cls := findClass_of_methodNamed B.named
  have hlocks := B.notSynchronized
  have hD := hD0.self (sz := s.heap.size)
  generalize hAe : va_A ([] : va_W) s.heap.size = A at hD ⊢
  have hA : ∀ q : Nat, s.heap.size ≤ q → A q := fun q hq => by rw [← hAe]; exact Or.inr hq
  have hS : va_S A s.heap s.heap [] := va_S.rf
  have hl := lv_entry ([.int x0, .int x1, .int x2]) (n := 3) (Nat.le_of_ble_eq_true rfl)
  rw [lg_entry_eq]
  generalize (lg_sl ([.int x0, .int x1, .int x2]) ++ List.replicate (3 - (lg_sl ([.int x0, .int x1, .int x2])).length) Slot.unset).toArray = ls at hl ⊢
  have hl : lv_has ls 3 [(0, .int x0), (1, .int x1), (2, .int x2)] := hl
  unfold F_X4_within at h
  refine lv_iload_n hx hb dX4_within_0 rfl (lv_at hl 0 rfl) ?_
  refine lv_iload_n hx hb dX4_within_1 rfl (lv_at hl 1 rfl) ?_
  refine lv_icmp_lt (tgt := 14) hx hb dX4_within_2 (by decide) (fun c1 => ?_) (fun c1 => ?_)
  · replace h := fp c1 h
    refine lv_iconst (v := (0 : Int32)) hx hb dX4_within_14 (by decide) ?_
    cases h
    exact rt_z (v := (0 : Int32)) hx hb hr rfl hlocks hS hP hK hD dX4_within_15
  · replace h := fn c1 h
    refine lv_iload_n hx hb dX4_within_5 rfl (lv_at hl 0 rfl) ?_
    refine lv_iload_n hx hb dX4_within_6 rfl (lv_at hl 2 rfl) ?_
    refine lv_icmp_gt (tgt := 14) hx hb dX4_within_7 (by decide) (fun c2 => ?_) (fun c2 => ?_)
    · replace h := fp c2 h
      refine lv_iconst (v := (0 : Int32)) hx hb dX4_within_14 (by decide) ?_
      cases h
      exact rt_z (v := (0 : Int32)) hx hb hr rfl hlocks hS hP hK hD dX4_within_15
    · replace h := fn c2 h
      refine lv_iconst (v := (1 : Int32)) hx hb dX4_within_10 (by decide) ?_
      refine lv_goto (tgt := 15) hx hb dX4_within_11 (by decide) ?_
      cases h
      exact rt_z (v := (1 : Int32)) hx hb hr rfl hlocks hS hP hK hD dX4_within_15
theorem dX1_isPlace_0 : decode cX1_isPlace 0 = .ok (.iload_n 1, 1) := by decide +kernel
theorem dX1_isPlace_1 : decode cX1_isPlace 1 = .ok (.iconst 0, 1) := by decide +kernel
theorem dX1_isPlace_2 : decode cX1_isPlace 2 = .ok (.aload_n 0, 1) := by decide +kernel
theorem dX1_isPlace_3 : decode cX1_isPlace 3 = .ok (.getfield 21, 3) := by decide +kernel
theorem dX1_isPlace_6 : decode cX1_isPlace 6 = .ok (.iconst 1, 1) := by decide +kernel
theorem dX1_isPlace_7 : decode cX1_isPlace 7 = .ok (.isub, 1) := by decide +kernel
theorem dX1_isPlace_8 : decode cX1_isPlace 8 = .ok (.invokestatic 34, 3) := by decide +kernel
theorem dX1_isPlace_11 : decode cX1_isPlace 11 = .ok (.ireturn, 1) := by decide +kernel
set_option maxHeartbeats 4000000 in
set_option maxRecDepth 100000 in
theorem c_X1_isPlace (l : Launch) (D : va_G) (cI cC cO : ClassId) (a : Nat → Nat) (L : Mm) (x1 : Int32) (res : Int32) (sz : Nat) (h : F_X1_isPlace L x1 = some res) : Met l yX1_isPlace (Cond.code yX1_isPlace cX1_isPlace 2 (Option.some Jvm.ClassFile.FieldType.boolean) :: lw_g) ({ frames := 1, cells := 0, slots := 0, locals := 22 } : Room) (va_Pc [.ref (a 0), .int x1] (pS D cI cC cO sz (wX1 a cI cC cO L))) (QI D cI cC cO (va_A (wX1 a cI cC cO L) sz) (wX1 a cI cC cO L) res) 0 0 (va_A (wX1 a cI cC cO L) sz) := by
  refine Met.ofW (cc := cX1_isPlace) (maxL := 2) (ret := (Option.some Jvm.ClassFile.FieldType.boolean)) (by decide) rfl ?_
  intro p e s m args below meth c s₁ B hml hv
  obtain ⟨rfl, rfl, hP, hK, hD0, hN⟩ := hv
  have hx := B.exec
  have hb := B.bytes
  have hr := B.returns
  have ht : ∀ w ∈ lw_g, w.before ([.ref (a 0), .int x1] : List Value).toArray s = true := fun w hw => atoms_spec (ws := Cond.code yX1_isPlace cX1_isPlace 2 (Option.some Jvm.ClassFile.FieldType.boolean) :: lw_g) B.pre w (List.mem_cons_of_mem _ hw)
  have hown : s.vm.findClass RX1 = some m.cls := findClass_of_methodNamed B.named
  have hlocks := B.notSynchronized
  have hD := hD0.self (sz := s.heap.size)
  generalize hAe : va_A (wX1 a cI cC cO L) s.heap.size = A at hD ⊢
  have hA : ∀ q : Nat, s.heap.size ≤ q → A q := fun q hq => by rw [← hAe]; exact Or.inr hq
  have hS : va_S A s.heap s.heap [] := va_S.rf
  have hl := lv_entry ([.ref (a 0), .int x1]) (n := 2) (Nat.le_of_ble_eq_true rfl)
  rw [lg_entry_eq]
  generalize (lg_sl ([.ref (a 0), .int x1]) ++ List.replicate (2 - (lg_sl ([.ref (a 0), .int x1])).length) Slot.unset).toArray = ls at hl ⊢
  have hl : lv_has ls 2 [(0, .ref (a 0)), (1, .int x1)] := hl
  unfold F_X1_isPlace at h
  refine lv_iload_n hx hb dX1_isPlace_0 rfl (lv_at hl 1 rfl) ?_
  refine lv_iconst (v := (0 : Int32)) hx hb dX1_isPlace_1 (by decide) ?_
  refine lv_aload_n hx hb dX1_isPlace_2 rfl (lv_at hl 0 rfl) ?_
  refine va_get (D := D) (ci := 1) (v := .int (L 3 0)) (C := RX1) (T := TX1) (N := 5) hx hb ht i_X1 hown hK hP 0 rfl rfl 3 (by decide) (ht _ wd_32) (fun _ h9 => h9) rfl dX1_isPlace_3 ?_
  refine lv_iconst (v := (1 : Int32)) hx hb dX1_isPlace_6 (by decide) ?_
  refine lv_isub hx hb dX1_isPlace_7 ?_
  obtain ⟨u1, e2, h⟩ := b1_ok h
  refine cl_Ni (ws' := (wX1 a cI cC cO L)) ⟨hx, hb, hml, hown, ht⟩ (c_X4_within l D cI cC cO x1 (0 : Int32) ((L 3 0) - (1 : Int32)) _ _ e2) ⟨va_cnB 3 ht (gI wd_161) rfl rfl rfl (hN.2 _ _ _ _ wd_159) (ht _ wd_1) (by decide +kernel) ⟨Nat.le_of_ble_eq_true rfl, Nat.le_of_ble_eq_true rfl⟩, ht _ wd_160, trivial⟩ hK hP hD hS hA hN [] [0, 1, 2, 3] [0, 1, 2, 3] (by decide) rfl rfl (by decide) (by decide) rfl (by decide) rfl hl.1 rfl (Nat.le_of_ble_eq_true rfl) dX1_isPlace_8 ⟨Nat.le_of_ble_eq_true rfl, Nat.le_of_ble_eq_true rfl⟩ (fun H locs hP hD hS => ?_)
  obtain ⟨z3, h⟩ := cz_ok h
  cases h
  exact rt_z hx hb hr (nz z3) hlocks hS hP hK hD dX1_isPlace_11
theorem dX1_isPipe_0 : decode cX1_isPipe 0 = .ok (.iload_n 1, 1) := by decide +kernel
theorem dX1_isPipe_1 : decode cX1_isPipe 1 = .ok (.iconst 0, 1) := by decide +kernel
theorem dX1_isPipe_2 : decode cX1_isPipe 2 = .ok (.aload_n 0, 1) := by decide +kernel
theorem dX1_isPipe_3 : decode cX1_isPipe 3 = .ok (.getfield 25, 3) := by decide +kernel
theorem dX1_isPipe_6 : decode cX1_isPipe 6 = .ok (.iconst 1, 1) := by decide +kernel
theorem dX1_isPipe_7 : decode cX1_isPipe 7 = .ok (.isub, 1) := by decide +kernel
theorem dX1_isPipe_8 : decode cX1_isPipe 8 = .ok (.invokestatic 34, 3) := by decide +kernel
theorem dX1_isPipe_11 : decode cX1_isPipe 11 = .ok (.ireturn, 1) := by decide +kernel
set_option maxHeartbeats 4000000 in
set_option maxRecDepth 100000 in
theorem c_X1_isPipe (l : Launch) (D : va_G) (cI cC cO : ClassId) (a : Nat → Nat) (L : Mm) (x1 : Int32) (res : Int32) (sz : Nat) (h : F_X1_isPipe L x1 = some res) : Met l yX1_isPipe (Cond.code yX1_isPipe cX1_isPipe 2 (Option.some Jvm.ClassFile.FieldType.boolean) :: lw_g) ({ frames := 1, cells := 0, slots := 0, locals := 22 } : Room) (va_Pc [.ref (a 0), .int x1] (pS D cI cC cO sz (wX1 a cI cC cO L))) (QI D cI cC cO (va_A (wX1 a cI cC cO L) sz) (wX1 a cI cC cO L) res) 0 0 (va_A (wX1 a cI cC cO L) sz) := by
  refine Met.ofW (cc := cX1_isPipe) (maxL := 2) (ret := (Option.some Jvm.ClassFile.FieldType.boolean)) (by decide) rfl ?_
  intro p e s m args below meth c s₁ B hml hv
  obtain ⟨rfl, rfl, hP, hK, hD0, hN⟩ := hv
  have hx := B.exec
  have hb := B.bytes
  have hr := B.returns
  have ht : ∀ w ∈ lw_g, w.before ([.ref (a 0), .int x1] : List Value).toArray s = true := fun w hw => atoms_spec (ws := Cond.code yX1_isPipe cX1_isPipe 2 (Option.some Jvm.ClassFile.FieldType.boolean) :: lw_g) B.pre w (List.mem_cons_of_mem _ hw)
  have hown : s.vm.findClass RX1 = some m.cls := findClass_of_methodNamed B.named
  have hlocks := B.notSynchronized
  have hD := hD0.self (sz := s.heap.size)
  generalize hAe : va_A (wX1 a cI cC cO L) s.heap.size = A at hD ⊢
  have hA : ∀ q : Nat, s.heap.size ≤ q → A q := fun q hq => by rw [← hAe]; exact Or.inr hq
  have hS : va_S A s.heap s.heap [] := va_S.rf
  have hl := lv_entry ([.ref (a 0), .int x1]) (n := 2) (Nat.le_of_ble_eq_true rfl)
  rw [lg_entry_eq]
  generalize (lg_sl ([.ref (a 0), .int x1]) ++ List.replicate (2 - (lg_sl ([.ref (a 0), .int x1])).length) Slot.unset).toArray = ls at hl ⊢
  have hl : lv_has ls 2 [(0, .ref (a 0)), (1, .int x1)] := hl
  unfold F_X1_isPipe at h
  refine lv_iload_n hx hb dX1_isPipe_0 rfl (lv_at hl 1 rfl) ?_
  refine lv_iconst (v := (0 : Int32)) hx hb dX1_isPipe_1 (by decide) ?_
  refine lv_aload_n hx hb dX1_isPipe_2 rfl (lv_at hl 0 rfl) ?_
  refine va_get (D := D) (ci := 1) (v := .int (L 3 1)) (C := RX1) (T := TX1) (N := 5) hx hb ht i_X1 hown hK hP 0 rfl rfl 4 (by decide) (ht _ wd_35) (fun _ h9 => h9) rfl dX1_isPipe_3 ?_
  refine lv_iconst (v := (1 : Int32)) hx hb dX1_isPipe_6 (by decide) ?_
  refine lv_isub hx hb dX1_isPipe_7 ?_
  obtain ⟨u1, e2, h⟩ := b1_ok h
  refine cl_Ni (ws' := (wX1 a cI cC cO L)) ⟨hx, hb, hml, hown, ht⟩ (c_X4_within l D cI cC cO x1 (0 : Int32) ((L 3 1) - (1 : Int32)) _ _ e2) ⟨va_cnB 3 ht (gI wd_161) rfl rfl rfl (hN.2 _ _ _ _ wd_159) (ht _ wd_1) (by decide +kernel) ⟨Nat.le_of_ble_eq_true rfl, Nat.le_of_ble_eq_true rfl⟩, ht _ wd_160, trivial⟩ hK hP hD hS hA hN [] [0, 1, 2, 3] [0, 1, 2, 3] (by decide) rfl rfl (by decide) (by decide) rfl (by decide) rfl hl.1 rfl (Nat.le_of_ble_eq_true rfl) dX1_isPipe_8 ⟨Nat.le_of_ble_eq_true rfl, Nat.le_of_ble_eq_true rfl⟩ (fun H locs hP hD hS => ?_)
  obtain ⟨z3, h⟩ := cz_ok h
  cases h
  exact rt_z hx hb hr (nz z3) hlocks hS hP hK hD dX1_isPipe_11
theorem dX1_placesAreFull_0 : decode cX1_placesAreFull 0 = .ok (.aload_n 0, 1) := by decide +kernel
theorem dX1_placesAreFull_1 : decode cX1_placesAreFull 1 = .ok (.getfield 21, 3) := by decide +kernel
theorem dX1_placesAreFull_4 : decode cX1_placesAreFull 4 = .ok (.bipush 6, 2) := by decide +kernel
theorem dX1_placesAreFull_6 : decode cX1_placesAreFull 6 = .ok (.if_icmp .lt 7, 3) := by decide +kernel
theorem dX1_placesAreFull_9 : decode cX1_placesAreFull 9 = .ok (.iconst 1, 1) := by decide +kernel
theorem dX1_placesAreFull_10 : decode cX1_placesAreFull 10 = .ok (.goto 4, 3) := by decide +kernel
theorem dX1_placesAreFull_13 : decode cX1_placesAreFull 13 = .ok (.iconst 0, 1) := by decide +kernel
theorem dX1_placesAreFull_14 : decode cX1_placesAreFull 14 = .ok (.ireturn, 1) := by decide +kernel
set_option maxHeartbeats 4000000 in
set_option maxRecDepth 100000 in
theorem c_X1_placesAreFull (l : Launch) (D : va_G) (cI cC cO : ClassId) (a : Nat → Nat) (L : Mm) (res : Int32) (sz : Nat) (h : F_X1_placesAreFull L = some res) : Met l yX1_placesAreFull (Cond.code yX1_placesAreFull cX1_placesAreFull 1 (Option.some Jvm.ClassFile.FieldType.boolean) :: lw_g) ({ frames := 0, cells := 0, slots := 0, locals := 0 } : Room) (va_Pc [.ref (a 0)] (pS D cI cC cO sz (wX1 a cI cC cO L))) (QI D cI cC cO (va_A (wX1 a cI cC cO L) sz) (wX1 a cI cC cO L) res) 0 0 (va_A (wX1 a cI cC cO L) sz) := by
  refine Met.ofW (cc := cX1_placesAreFull) (maxL := 1) (ret := (Option.some Jvm.ClassFile.FieldType.boolean)) (by decide) rfl ?_
  intro p e s m args below meth c s₁ B hml hv
  obtain ⟨rfl, rfl, hP, hK, hD0, hN⟩ := hv
  have hx := B.exec
  have hb := B.bytes
  have hr := B.returns
  have ht : ∀ w ∈ lw_g, w.before ([.ref (a 0)] : List Value).toArray s = true := fun w hw => atoms_spec (ws := Cond.code yX1_placesAreFull cX1_placesAreFull 1 (Option.some Jvm.ClassFile.FieldType.boolean) :: lw_g) B.pre w (List.mem_cons_of_mem _ hw)
  have hown : s.vm.findClass RX1 = some m.cls := findClass_of_methodNamed B.named
  have hlocks := B.notSynchronized
  have hD := hD0.self (sz := s.heap.size)
  generalize hAe : va_A (wX1 a cI cC cO L) s.heap.size = A at hD ⊢
  have hA : ∀ q : Nat, s.heap.size ≤ q → A q := fun q hq => by rw [← hAe]; exact Or.inr hq
  have hS : va_S A s.heap s.heap [] := va_S.rf
  have hl := lv_entry ([.ref (a 0)]) (n := 1) (Nat.le_of_ble_eq_true rfl)
  rw [lg_entry_eq]
  generalize (lg_sl ([.ref (a 0)]) ++ List.replicate (1 - (lg_sl ([.ref (a 0)])).length) Slot.unset).toArray = ls at hl ⊢
  have hl : lv_has ls 1 [(0, .ref (a 0))] := hl
  unfold F_X1_placesAreFull at h
  refine lv_aload_n hx hb dX1_placesAreFull_0 rfl (lv_at hl 0 rfl) ?_
  refine va_get (D := D) (ci := 1) (v := .int (L 3 0)) (C := RX1) (T := TX1) (N := 5) hx hb ht i_X1 hown hK hP 0 rfl rfl 3 (by decide) (ht _ wd_32) (fun _ h9 => h9) rfl dX1_placesAreFull_1 ?_
  refine lv_bipush (v := (6 : Int32)) hx hb dX1_placesAreFull_4 (by decide) ?_
  refine lv_icmp_lt (tgt := 13) hx hb dX1_placesAreFull_6 (by decide) (fun c1 => ?_) (fun c1 => ?_)
  · replace h := fp c1 h
    refine lv_iconst (v := (0 : Int32)) hx hb dX1_placesAreFull_13 (by decide) ?_
    cases h
    exact rt_z (v := (0 : Int32)) hx hb hr rfl hlocks hS hP hK hD dX1_placesAreFull_14
  · replace h := fn c1 h
    refine lv_iconst (v := (1 : Int32)) hx hb dX1_placesAreFull_9 (by decide) ?_
    refine lv_goto (tgt := 14) hx hb dX1_placesAreFull_10 (by decide) ?_
    cases h
    exact rt_z (v := (1 : Int32)) hx hb hr rfl hlocks hS hP hK hD dX1_placesAreFull_14
theorem dX1_pipesAreFull_0 : decode cX1_pipesAreFull 0 = .ok (.aload_n 0, 1) := by decide +kernel
theorem dX1_pipesAreFull_1 : decode cX1_pipesAreFull 1 = .ok (.getfield 25, 3) := by decide +kernel
theorem dX1_pipesAreFull_4 : decode cX1_pipesAreFull 4 = .ok (.bipush 10, 2) := by decide +kernel
theorem dX1_pipesAreFull_6 : decode cX1_pipesAreFull 6 = .ok (.if_icmp .lt 7, 3) := by decide +kernel
theorem dX1_pipesAreFull_9 : decode cX1_pipesAreFull 9 = .ok (.iconst 1, 1) := by decide +kernel
theorem dX1_pipesAreFull_10 : decode cX1_pipesAreFull 10 = .ok (.goto 4, 3) := by decide +kernel
theorem dX1_pipesAreFull_13 : decode cX1_pipesAreFull 13 = .ok (.iconst 0, 1) := by decide +kernel
theorem dX1_pipesAreFull_14 : decode cX1_pipesAreFull 14 = .ok (.ireturn, 1) := by decide +kernel
set_option maxHeartbeats 4000000 in
set_option maxRecDepth 100000 in
theorem c_X1_pipesAreFull (l : Launch) (D : va_G) (cI cC cO : ClassId) (a : Nat → Nat) (L : Mm) (res : Int32) (sz : Nat) (h : F_X1_pipesAreFull L = some res) : Met l yX1_pipesAreFull (Cond.code yX1_pipesAreFull cX1_pipesAreFull 1 (Option.some Jvm.ClassFile.FieldType.boolean) :: lw_g) ({ frames := 0, cells := 0, slots := 0, locals := 0 } : Room) (va_Pc [.ref (a 0)] (pS D cI cC cO sz (wX1 a cI cC cO L))) (QI D cI cC cO (va_A (wX1 a cI cC cO L) sz) (wX1 a cI cC cO L) res) 0 0 (va_A (wX1 a cI cC cO L) sz) := by
  refine Met.ofW (cc := cX1_pipesAreFull) (maxL := 1) (ret := (Option.some Jvm.ClassFile.FieldType.boolean)) (by decide) rfl ?_
  intro p e s m args below meth c s₁ B hml hv
  obtain ⟨rfl, rfl, hP, hK, hD0, hN⟩ := hv
  have hx := B.exec
  have hb := B.bytes
  have hr := B.returns
  have ht : ∀ w ∈ lw_g, w.before ([.ref (a 0)] : List Value).toArray s = true := fun w hw => atoms_spec (ws := Cond.code yX1_pipesAreFull cX1_pipesAreFull 1 (Option.some Jvm.ClassFile.FieldType.boolean) :: lw_g) B.pre w (List.mem_cons_of_mem _ hw)
  have hown : s.vm.findClass RX1 = some m.cls := findClass_of_methodNamed B.named
  have hlocks := B.notSynchronized
  have hD := hD0.self (sz := s.heap.size)
  generalize hAe : va_A (wX1 a cI cC cO L) s.heap.size = A at hD ⊢
  have hA : ∀ q : Nat, s.heap.size ≤ q → A q := fun q hq => by rw [← hAe]; exact Or.inr hq
  have hS : va_S A s.heap s.heap [] := va_S.rf
  have hl := lv_entry ([.ref (a 0)]) (n := 1) (Nat.le_of_ble_eq_true rfl)
  rw [lg_entry_eq]
  generalize (lg_sl ([.ref (a 0)]) ++ List.replicate (1 - (lg_sl ([.ref (a 0)])).length) Slot.unset).toArray = ls at hl ⊢
  have hl : lv_has ls 1 [(0, .ref (a 0))] := hl
  unfold F_X1_pipesAreFull at h
  refine lv_aload_n hx hb dX1_pipesAreFull_0 rfl (lv_at hl 0 rfl) ?_
  refine va_get (D := D) (ci := 1) (v := .int (L 3 1)) (C := RX1) (T := TX1) (N := 5) hx hb ht i_X1 hown hK hP 0 rfl rfl 4 (by decide) (ht _ wd_35) (fun _ h9 => h9) rfl dX1_pipesAreFull_1 ?_
  refine lv_bipush (v := (10 : Int32)) hx hb dX1_pipesAreFull_4 (by decide) ?_
  refine lv_icmp_lt (tgt := 13) hx hb dX1_pipesAreFull_6 (by decide) (fun c1 => ?_) (fun c1 => ?_)
  · replace h := fp c1 h
    refine lv_iconst (v := (0 : Int32)) hx hb dX1_pipesAreFull_13 (by decide) ?_
    cases h
    exact rt_z (v := (0 : Int32)) hx hb hr rfl hlocks hS hP hK hD dX1_pipesAreFull_14
  · replace h := fn c1 h
    refine lv_iconst (v := (1 : Int32)) hx hb dX1_pipesAreFull_9 (by decide) ?_
    refine lv_goto (tgt := 14) hx hb dX1_pipesAreFull_10 (by decide) ?_
    cases h
    exact rt_z (v := (1 : Int32)) hx hb hr rfl hlocks hS hP hK hD dX1_pipesAreFull_14
theorem dX1_badOfPlace_0 : decode cX1_badOfPlace 0 = .ok (.iload_n 1, 1) := by decide +kernel
theorem dX1_badOfPlace_1 : decode cX1_badOfPlace 1 = .ok (.iconst 0, 1) := by decide +kernel
theorem dX1_badOfPlace_2 : decode cX1_badOfPlace 2 = .ok (.bipush 20, 2) := by decide +kernel
theorem dX1_badOfPlace_4 : decode cX1_badOfPlace 4 = .ok (.invokestatic 34, 3) := by decide +kernel
theorem dX1_badOfPlace_7 : decode cX1_badOfPlace 7 = .ok (.ifCond .ne 5, 3) := by decide +kernel
theorem dX1_badOfPlace_10 : decode cX1_badOfPlace 10 = .ok (.iconst 0, 1) := by decide +kernel
theorem dX1_badOfPlace_11 : decode cX1_badOfPlace 11 = .ok (.ireturn, 1) := by decide +kernel
theorem dX1_badOfPlace_12 : decode cX1_badOfPlace 12 = .ok (.iload_n 2, 1) := by decide +kernel
theorem dX1_badOfPlace_13 : decode cX1_badOfPlace 13 = .ok (.iconst 0, 1) := by decide +kernel
theorem dX1_badOfPlace_14 : decode cX1_badOfPlace 14 = .ok (.bipush 40, 2) := by decide +kernel
theorem dX1_badOfPlace_16 : decode cX1_badOfPlace 16 = .ok (.invokestatic 34, 3) := by decide +kernel
theorem dX1_badOfPlace_19 : decode cX1_badOfPlace 19 = .ok (.ifCond .eq 7, 3) := by decide +kernel
theorem dX1_badOfPlace_22 : decode cX1_badOfPlace 22 = .ok (.iconst (-1), 1) := by decide +kernel
theorem dX1_badOfPlace_23 : decode cX1_badOfPlace 23 = .ok (.goto 4, 3) := by decide +kernel
theorem dX1_badOfPlace_26 : decode cX1_badOfPlace 26 = .ok (.iconst 1, 1) := by decide +kernel
theorem dX1_badOfPlace_27 : decode cX1_badOfPlace 27 = .ok (.ireturn, 1) := by decide +kernel
set_option maxHeartbeats 4000000 in
set_option maxRecDepth 100000 in
theorem c_X1_badOfPlace (l : Launch) (D : va_G) (cI cC cO : ClassId) (a : Nat → Nat) (L : Mm) (x1 x2 : Int32) (res : Int32) (sz : Nat) (h : F_X1_badOfPlace L x1 x2 = some res) : Met l yX1_badOfPlace (Cond.code yX1_badOfPlace cX1_badOfPlace 3 (Option.some Jvm.ClassFile.FieldType.int) :: lw_g) ({ frames := 1, cells := 0, slots := 0, locals := 22 } : Room) (va_Pc [.ref (a 0), .int x1, .int x2] (pS D cI cC cO sz (wX1 a cI cC cO L))) (QI D cI cC cO (va_A (wX1 a cI cC cO L) sz) (wX1 a cI cC cO L) res) 0 0 (va_A (wX1 a cI cC cO L) sz) := by
  refine Met.ofW (cc := cX1_badOfPlace) (maxL := 3) (ret := (Option.some Jvm.ClassFile.FieldType.int)) (by decide) rfl ?_
  intro p e s m args below meth c s₁ B hml hv
  obtain ⟨rfl, rfl, hP, hK, hD0, hN⟩ := hv
  have hx := B.exec
  have hb := B.bytes
  have hr := B.returns
  have ht : ∀ w ∈ lw_g, w.before ([.ref (a 0), .int x1, .int x2] : List Value).toArray s = true := fun w hw => atoms_spec (ws := Cond.code yX1_badOfPlace cX1_badOfPlace 3 (Option.some Jvm.ClassFile.FieldType.int) :: lw_g) B.pre w (List.mem_cons_of_mem _ hw)
  have hown : s.vm.findClass RX1 = some m.cls := findClass_of_methodNamed B.named
  have hlocks := B.notSynchronized
  have hD := hD0.self (sz := s.heap.size)
  generalize hAe : va_A (wX1 a cI cC cO L) s.heap.size = A at hD ⊢
  have hA : ∀ q : Nat, s.heap.size ≤ q → A q := fun q hq => by rw [← hAe]; exact Or.inr hq
  have hS : va_S A s.heap s.heap [] := va_S.rf
  have hl := lv_entry ([.ref (a 0), .int x1, .int x2]) (n := 3) (Nat.le_of_ble_eq_true rfl)
  rw [lg_entry_eq]
  generalize (lg_sl ([.ref (a 0), .int x1, .int x2]) ++ List.replicate (3 - (lg_sl ([.ref (a 0), .int x1, .int x2])).length) Slot.unset).toArray = ls at hl ⊢
  have hl : lv_has ls 3 [(0, .ref (a 0)), (1, .int x1), (2, .int x2)] := hl
  unfold F_X1_badOfPlace at h
  refine lv_iload_n hx hb dX1_badOfPlace_0 rfl (lv_at hl 1 rfl) ?_
  refine lv_iconst (v := (0 : Int32)) hx hb dX1_badOfPlace_1 (by decide) ?_
  refine lv_bipush (v := (20 : Int32)) hx hb dX1_badOfPlace_2 (by decide) ?_
  obtain ⟨u1, e2, h⟩ := b1_ok h
  refine cl_Ni (ws' := (wX1 a cI cC cO L)) ⟨hx, hb, hml, hown, ht⟩ (c_X4_within l D cI cC cO x1 (0 : Int32) (20 : Int32) _ _ e2) ⟨va_cnB 3 ht (gI wd_161) rfl rfl rfl (hN.2 _ _ _ _ wd_159) (ht _ wd_1) (by decide +kernel) ⟨Nat.le_of_ble_eq_true rfl, Nat.le_of_ble_eq_true rfl⟩, ht _ wd_160, trivial⟩ hK hP hD hS hA hN [] [0, 1, 2, 3] [0, 1, 2, 3] (by decide) rfl rfl (by decide) (by decide) rfl (by decide) rfl hl.1 rfl (Nat.le_of_ble_eq_true rfl) dX1_badOfPlace_4 ⟨Nat.le_of_ble_eq_true rfl, Nat.le_of_ble_eq_true rfl⟩ (fun H locs hP hD hS => ?_)
  refine lv_if_ne (tgt := 12) hx hb dX1_badOfPlace_7 (by decide) (fun c3 => ?_) (fun c3 => ?_)
  · replace h := fn c3 h
    refine lv_iload_n hx hb dX1_badOfPlace_12 rfl (lv_at hl 2 rfl) ?_
    refine lv_iconst (v := (0 : Int32)) hx hb dX1_badOfPlace_13 (by decide) ?_
    refine lv_bipush (v := (40 : Int32)) hx hb dX1_badOfPlace_14 (by decide) ?_
    obtain ⟨u4, e5, h⟩ := b1_ok h
    refine cl_Ni (ws' := (wX1 a cI cC cO L)) ⟨hx, hb, hml, hown, ht⟩ (c_X4_within l D cI cC cO x2 (0 : Int32) (40 : Int32) _ _ e5) ⟨va_cnB 3 ht (gI wd_161) rfl rfl rfl (hN.2 _ _ _ _ wd_159) (ht _ wd_1) (by decide +kernel) ⟨Nat.le_of_ble_eq_true rfl, Nat.le_of_ble_eq_true rfl⟩, ht _ wd_160, trivial⟩ hK hP hD hS hA hN [] [0, 1, 2, 3] [0, 1, 2, 3] (by decide) rfl rfl (by decide) (by decide) rfl (by decide) rfl hl.1 rfl (Nat.le_of_ble_eq_true rfl) dX1_badOfPlace_16 ⟨Nat.le_of_ble_eq_true rfl, Nat.le_of_ble_eq_true rfl⟩ (fun H locs hP hD hS => ?_)
    refine lv_if_eq (tgt := 26) hx hb dX1_badOfPlace_19 (by decide) (fun c6 => ?_) (fun c6 => ?_)
    · replace h := fp c6 h
      refine lv_iconst (v := (1 : Int32)) hx hb dX1_badOfPlace_26 (by decide) ?_
      cases h
      exact rt_i hx hb hr hlocks hS hP hK hD dX1_badOfPlace_27
    · replace h := fn c6 h
      refine lv_iconst (v := (-1 : Int32)) hx hb dX1_badOfPlace_22 (by decide) ?_
      refine lv_goto (tgt := 27) hx hb dX1_badOfPlace_23 (by decide) ?_
      cases h
      exact rt_i hx hb hr hlocks hS hP hK hD dX1_badOfPlace_27
  · replace h := fp c3 h
    refine lv_iconst (v := (0 : Int32)) hx hb dX1_badOfPlace_10 (by decide) ?_
    cases h
    exact rt_i hx hb hr hlocks hS hP hK hD dX1_badOfPlace_11
theorem dX1_badOfPipe_0 : decode cX1_badOfPipe 0 = .ok (.aload_n 0, 1) := by decide +kernel
theorem dX1_badOfPipe_1 : decode cX1_badOfPipe 1 = .ok (.iload_n 1, 1) := by decide +kernel
theorem dX1_badOfPipe_2 : decode cX1_badOfPipe 2 = .ok (.invokevirtual 38, 3) := by decide +kernel
theorem dX1_badOfPipe_5 : decode cX1_badOfPipe 5 = .ok (.ifCond .ne 5, 3) := by decide +kernel
theorem dX1_badOfPipe_8 : decode cX1_badOfPipe 8 = .ok (.iconst 0, 1) := by decide +kernel
theorem dX1_badOfPipe_9 : decode cX1_badOfPipe 9 = .ok (.ireturn, 1) := by decide +kernel
theorem dX1_badOfPipe_10 : decode cX1_badOfPipe 10 = .ok (.aload_n 0, 1) := by decide +kernel
theorem dX1_badOfPipe_11 : decode cX1_badOfPipe 11 = .ok (.iload_n 2, 1) := by decide +kernel
theorem dX1_badOfPipe_12 : decode cX1_badOfPipe 12 = .ok (.invokevirtual 38, 3) := by decide +kernel
theorem dX1_badOfPipe_15 : decode cX1_badOfPipe 15 = .ok (.ifCond .eq 8, 3) := by decide +kernel
theorem dX1_badOfPipe_18 : decode cX1_badOfPipe 18 = .ok (.iload_n 2, 1) := by decide +kernel
theorem dX1_badOfPipe_19 : decode cX1_badOfPipe 19 = .ok (.iload_n 1, 1) := by decide +kernel
theorem dX1_badOfPipe_20 : decode cX1_badOfPipe 20 = .ok (.if_icmp .ne 5, 3) := by decide +kernel
theorem dX1_badOfPipe_23 : decode cX1_badOfPipe 23 = .ok (.iconst 1, 1) := by decide +kernel
theorem dX1_badOfPipe_24 : decode cX1_badOfPipe 24 = .ok (.ireturn, 1) := by decide +kernel
theorem dX1_badOfPipe_25 : decode cX1_badOfPipe 25 = .ok (.iload_n 3, 1) := by decide +kernel
theorem dX1_badOfPipe_26 : decode cX1_badOfPipe 26 = .ok (.iconst 1, 1) := by decide +kernel
theorem dX1_badOfPipe_27 : decode cX1_badOfPipe 27 = .ok (.iconst 4, 1) := by decide +kernel
theorem dX1_badOfPipe_28 : decode cX1_badOfPipe 28 = .ok (.invokestatic 34, 3) := by decide +kernel
theorem dX1_badOfPipe_31 : decode cX1_badOfPipe 31 = .ok (.ifCond .ne 5, 3) := by decide +kernel
theorem dX1_badOfPipe_34 : decode cX1_badOfPipe 34 = .ok (.iconst 2, 1) := by decide +kernel
theorem dX1_badOfPipe_35 : decode cX1_badOfPipe 35 = .ok (.ireturn, 1) := by decide +kernel
theorem dX1_badOfPipe_36 : decode cX1_badOfPipe 36 = .ok (.iload 4, 2) := by decide +kernel
theorem dX1_badOfPipe_38 : decode cX1_badOfPipe 38 = .ok (.iconst 1, 1) := by decide +kernel
theorem dX1_badOfPipe_39 : decode cX1_badOfPipe 39 = .ok (.bipush 9, 2) := by decide +kernel
theorem dX1_badOfPipe_41 : decode cX1_badOfPipe 41 = .ok (.invokestatic 34, 3) := by decide +kernel
theorem dX1_badOfPipe_44 : decode cX1_badOfPipe 44 = .ok (.ifCond .eq 7, 3) := by decide +kernel
theorem dX1_badOfPipe_47 : decode cX1_badOfPipe 47 = .ok (.iconst (-1), 1) := by decide +kernel
theorem dX1_badOfPipe_48 : decode cX1_badOfPipe 48 = .ok (.goto 4, 3) := by decide +kernel
theorem dX1_badOfPipe_51 : decode cX1_badOfPipe 51 = .ok (.iconst 3, 1) := by decide +kernel
theorem dX1_badOfPipe_52 : decode cX1_badOfPipe 52 = .ok (.ireturn, 1) := by decide +kernel
set_option maxHeartbeats 4000000 in
set_option maxRecDepth 100000 in
theorem c_X1_badOfPipe (l : Launch) (D : va_G) (cI cC cO : ClassId) (a : Nat → Nat) (L : Mm) (x1 x2 x3 x4 : Int32) (res : Int32) (sz : Nat) (h : F_X1_badOfPipe L x1 x2 x3 x4 = some res) : Met l yX1_badOfPipe (Cond.code yX1_badOfPipe cX1_badOfPipe 5 (Option.some Jvm.ClassFile.FieldType.int) :: lw_g) ({ frames := 2, cells := 0, slots := 0, locals := 43 } : Room) (va_Pc [.ref (a 0), .int x1, .int x2, .int x3, .int x4] (pS D cI cC cO sz (wX1 a cI cC cO L))) (QI D cI cC cO (va_A (wX1 a cI cC cO L) sz) (wX1 a cI cC cO L) res) 0 0 (va_A (wX1 a cI cC cO L) sz) := by
  refine Met.ofW (cc := cX1_badOfPipe) (maxL := 5) (ret := (Option.some Jvm.ClassFile.FieldType.int)) (by decide) rfl ?_
  intro p e s m args below meth c s₁ B hml hv
  obtain ⟨rfl, rfl, hP, hK, hD0, hN⟩ := hv
  have hx := B.exec
  have hb := B.bytes
  have hr := B.returns
  have ht : ∀ w ∈ lw_g, w.before ([.ref (a 0), .int x1, .int x2, .int x3, .int x4] : List Value).toArray s = true := fun w hw => atoms_spec (ws := Cond.code yX1_badOfPipe cX1_badOfPipe 5 (Option.some Jvm.ClassFile.FieldType.int) :: lw_g) B.pre w (List.mem_cons_of_mem _ hw)
  have hown : s.vm.findClass RX1 = some m.cls := findClass_of_methodNamed B.named
  have hlocks := B.notSynchronized
  have hD := hD0.self (sz := s.heap.size)
  generalize hAe : va_A (wX1 a cI cC cO L) s.heap.size = A at hD ⊢
  have hA : ∀ q : Nat, s.heap.size ≤ q → A q := fun q hq => by rw [← hAe]; exact Or.inr hq
  have hS : va_S A s.heap s.heap [] := va_S.rf
  have hl := lv_entry ([.ref (a 0), .int x1, .int x2, .int x3, .int x4]) (n := 5) (Nat.le_of_ble_eq_true rfl)
  rw [lg_entry_eq]
  generalize (lg_sl ([.ref (a 0), .int x1, .int x2, .int x3, .int x4]) ++ List.replicate (5 - (lg_sl ([.ref (a 0), .int x1, .int x2, .int x3, .int x4])).length) Slot.unset).toArray = ls at hl ⊢
  have hl : lv_has ls 5 [(0, .ref (a 0)), (1, .int x1), (2, .int x2), (3, .int x3), (4, .int x4)] := hl
  unfold F_X1_badOfPipe at h
  refine lv_aload_n hx hb dX1_badOfPipe_0 rfl (lv_at hl 0 rfl) ?_
  refine lv_iload_n hx hb dX1_badOfPipe_1 rfl (lv_at hl 1 rfl) ?_
  obtain ⟨u1, e2, h⟩ := b1_ok h
  refine cl_Vi (ws' := (wX1 a cI cC cO L)) ⟨hx, hb, hml, hown, ht⟩ (c_X1_isPlace l D cI cC cO a L x1 _ _ e2) (cwv 1 ht wd_198 wd_2 wd_195 wd_196 wd_197 (by decide +kernel) rfl rfl ⟨Nat.le_of_ble_eq_true rfl, Nat.le_of_ble_eq_true rfl⟩) 1 0 rfl rfl rfl hK hP hD hS hA hN [0, 1, 2, 3] [] [0, 1, 2, 3] (by decide) rfl rfl (by decide) (by decide) rfl (by decide) rfl hl.1 rfl (Nat.le_of_ble_eq_true rfl) dX1_badOfPipe_2 ⟨Nat.le_of_ble_eq_true rfl, Nat.le_of_ble_eq_true rfl⟩ (fun H locs hP hD hS => ?_)
  refine lv_if_ne (tgt := 10) hx hb dX1_badOfPipe_5 (by decide) (fun c3 => ?_) (fun c3 => ?_)
  · replace h := fn c3 h
    refine lv_aload_n hx hb dX1_badOfPipe_10 rfl (lv_at hl 0 rfl) ?_
    refine lv_iload_n hx hb dX1_badOfPipe_11 rfl (lv_at hl 2 rfl) ?_
    obtain ⟨u4, e5, h⟩ := b1_ok h
    refine cl_Vi (ws' := (wX1 a cI cC cO L)) ⟨hx, hb, hml, hown, ht⟩ (c_X1_isPlace l D cI cC cO a L x2 _ _ e5) (cwv 1 ht wd_198 wd_2 wd_195 wd_196 wd_197 (by decide +kernel) rfl rfl ⟨Nat.le_of_ble_eq_true rfl, Nat.le_of_ble_eq_true rfl⟩) 1 0 rfl rfl rfl hK hP hD hS hA hN [0, 1, 2, 3] [] [0, 1, 2, 3] (by decide) rfl rfl (by decide) (by decide) rfl (by decide) rfl hl.1 rfl (Nat.le_of_ble_eq_true rfl) dX1_badOfPipe_12 ⟨Nat.le_of_ble_eq_true rfl, Nat.le_of_ble_eq_true rfl⟩ (fun H locs hP hD hS => ?_)
    refine lv_if_eq (tgt := 23) hx hb dX1_badOfPipe_15 (by decide) (fun c6 => ?_) (fun c6 => ?_)
    · replace h := fp c6 h
      refine lv_iconst (v := (1 : Int32)) hx hb dX1_badOfPipe_23 (by decide) ?_
      cases h
      exact rt_i hx hb hr hlocks hS hP hK hD dX1_badOfPipe_24
    · replace h := fn c6 h
      refine lv_iload_n hx hb dX1_badOfPipe_18 rfl (lv_at hl 2 rfl) ?_
      refine lv_iload_n hx hb dX1_badOfPipe_19 rfl (lv_at hl 1 rfl) ?_
      refine lv_icmp_ne (tgt := 25) hx hb dX1_badOfPipe_20 (by decide) (fun c7 => ?_) (fun c7 => ?_)
      · replace h := fn c7 h
        refine lv_iload_n hx hb dX1_badOfPipe_25 rfl (lv_at hl 3 rfl) ?_
        refine lv_iconst (v := (1 : Int32)) hx hb dX1_badOfPipe_26 (by decide) ?_
        refine lv_iconst (v := (4 : Int32)) hx hb dX1_badOfPipe_27 (by decide) ?_
        obtain ⟨u8, e9, h⟩ := b1_ok h
        refine cl_Ni (ws' := (wX1 a cI cC cO L)) ⟨hx, hb, hml, hown, ht⟩ (c_X4_within l D cI cC cO x3 (1 : Int32) (4 : Int32) _ _ e9) ⟨va_cnB 3 ht (gI wd_161) rfl rfl rfl (hN.2 _ _ _ _ wd_159) (ht _ wd_1) (by decide +kernel) ⟨Nat.le_of_ble_eq_true rfl, Nat.le_of_ble_eq_true rfl⟩, ht _ wd_160, trivial⟩ hK hP hD hS hA hN [] [0, 1, 2, 3] [0, 1, 2, 3] (by decide) rfl rfl (by decide) (by decide) rfl (by decide) rfl hl.1 rfl (Nat.le_of_ble_eq_true rfl) dX1_badOfPipe_28 ⟨Nat.le_of_ble_eq_true rfl, Nat.le_of_ble_eq_true rfl⟩ (fun H locs hP hD hS => ?_)
        refine lv_if_ne (tgt := 36) hx hb dX1_badOfPipe_31 (by decide) (fun c10 => ?_) (fun c10 => ?_)
        · replace h := fn c10 h
          refine lv_iload hx hb dX1_badOfPipe_36 (lv_at hl 4 rfl) ?_
          refine lv_iconst (v := (1 : Int32)) hx hb dX1_badOfPipe_38 (by decide) ?_
          refine lv_bipush (v := (9 : Int32)) hx hb dX1_badOfPipe_39 (by decide) ?_
          obtain ⟨u11, e12, h⟩ := b1_ok h
          refine cl_Ni (ws' := (wX1 a cI cC cO L)) ⟨hx, hb, hml, hown, ht⟩ (c_X4_within l D cI cC cO x4 (1 : Int32) (9 : Int32) _ _ e12) ⟨va_cnB 3 ht (gI wd_161) rfl rfl rfl (hN.2 _ _ _ _ wd_159) (ht _ wd_1) (by decide +kernel) ⟨Nat.le_of_ble_eq_true rfl, Nat.le_of_ble_eq_true rfl⟩, ht _ wd_160, trivial⟩ hK hP hD hS hA hN [] [0, 1, 2, 3] [0, 1, 2, 3] (by decide) rfl rfl (by decide) (by decide) rfl (by decide) rfl hl.1 rfl (Nat.le_of_ble_eq_true rfl) dX1_badOfPipe_41 ⟨Nat.le_of_ble_eq_true rfl, Nat.le_of_ble_eq_true rfl⟩ (fun H locs hP hD hS => ?_)
          refine lv_if_eq (tgt := 51) hx hb dX1_badOfPipe_44 (by decide) (fun c13 => ?_) (fun c13 => ?_)
          · replace h := fp c13 h
            refine lv_iconst (v := (3 : Int32)) hx hb dX1_badOfPipe_51 (by decide) ?_
            cases h
            exact rt_i hx hb hr hlocks hS hP hK hD dX1_badOfPipe_52
          · replace h := fn c13 h
            refine lv_iconst (v := (-1 : Int32)) hx hb dX1_badOfPipe_47 (by decide) ?_
            refine lv_goto (tgt := 52) hx hb dX1_badOfPipe_48 (by decide) ?_
            cases h
            exact rt_i hx hb hr hlocks hS hP hK hD dX1_badOfPipe_52
        · replace h := fp c10 h
          refine lv_iconst (v := (2 : Int32)) hx hb dX1_badOfPipe_34 (by decide) ?_
          cases h
          exact rt_i hx hb hr hlocks hS hP hK hD dX1_badOfPipe_35
      · replace h := fp c7 h
        refine lv_iconst (v := (1 : Int32)) hx hb dX1_badOfPipe_23 (by decide) ?_
        cases h
        exact rt_i hx hb hr hlocks hS hP hK hD dX1_badOfPipe_24
  · replace h := fp c3 h
    refine lv_iconst (v := (0 : Int32)) hx hb dX1_badOfPipe_8 (by decide) ?_
    cases h
    exact rt_i hx hb hr hlocks hS hP hK hD dX1_badOfPipe_9
theorem dX4_isTick_0 : decode cX4_isTick 0 = .ok (.iload_n 0, 1) := by decide +kernel
theorem dX4_isTick_1 : decode cX4_isTick 1 = .ok (.iconst 0, 1) := by decide +kernel
theorem dX4_isTick_2 : decode cX4_isTick 2 = .ok (.bipush 15, 2) := by decide +kernel
theorem dX4_isTick_4 : decode cX4_isTick 4 = .ok (.invokestatic 89, 3) := by decide +kernel
theorem dX4_isTick_7 : decode cX4_isTick 7 = .ok (.ireturn, 1) := by decide +kernel
set_option maxHeartbeats 4000000 in
set_option maxRecDepth 100000 in
theorem c_X4_isTick (l : Launch) (D : va_G) (cI cC cO : ClassId) (x0 : Int32) (res : Int32) (sz : Nat) (h : F_X4_isTick x0 = some res) : Met l yX4_isTick (Cond.code yX4_isTick cX4_isTick 1 (Option.some Jvm.ClassFile.FieldType.boolean) :: lw_g) ({ frames := 1, cells := 0, slots := 0, locals := 22 } : Room) (va_Pc [.int x0] (pS D cI cC cO sz ([] : va_W))) (QI D cI cC cO (va_A ([] : va_W) sz) ([] : va_W) res) 0 0 (va_A ([] : va_W) sz) := by
  refine Met.ofW (cc := cX4_isTick) (maxL := 1) (ret := (Option.some Jvm.ClassFile.FieldType.boolean)) (by decide) rfl ?_
  intro p e s m args below meth c s₁ B hml hv
  obtain ⟨rfl, rfl, hP, hK, hD0, hN⟩ := hv
  have hx := B.exec
  have hb := B.bytes
  have hr := B.returns
  have ht : ∀ w ∈ lw_g, w.before ([.int x0] : List Value).toArray s = true := fun w hw => atoms_spec (ws := Cond.code yX4_isTick cX4_isTick 1 (Option.some Jvm.ClassFile.FieldType.boolean) :: lw_g) B.pre w (List.mem_cons_of_mem _ hw)
  have hown : s.vm.findClass RX4 = some m.cls := findClass_of_methodNamed B.named
  have hlocks := B.notSynchronized
  have hD := hD0.self (sz := s.heap.size)
  generalize hAe : va_A ([] : va_W) s.heap.size = A at hD ⊢
  have hA : ∀ q : Nat, s.heap.size ≤ q → A q := fun q hq => by rw [← hAe]; exact Or.inr hq
  have hS : va_S A s.heap s.heap [] := va_S.rf
  have hl := lv_entry ([.int x0]) (n := 1) (Nat.le_of_ble_eq_true rfl)
  rw [lg_entry_eq]
  generalize (lg_sl ([.int x0]) ++ List.replicate (1 - (lg_sl ([.int x0])).length) Slot.unset).toArray = ls at hl ⊢
  have hl : lv_has ls 1 [(0, .int x0)] := hl
  unfold F_X4_isTick at h
  refine lv_iload_n hx hb dX4_isTick_0 rfl (lv_at hl 0 rfl) ?_
  refine lv_iconst (v := (0 : Int32)) hx hb dX4_isTick_1 (by decide) ?_
  refine lv_bipush (v := (15 : Int32)) hx hb dX4_isTick_2 (by decide) ?_
  obtain ⟨u1, e2, h⟩ := b1_ok h
  refine cl_Si (ws' := ([] : va_W)) ⟨hx, hb, hml, hown, ht⟩ (c_X4_within l D cI cC cO x0 (0 : Int32) (15 : Int32) _ _ e2) (cwst 3 ht wd_161 wd_1 wd_239 wd_160 (by decide +kernel) rfl rfl ⟨Nat.le_of_ble_eq_true rfl, Nat.le_of_ble_eq_true rfl⟩) hK hP hD hS hA hN [] [] [] (by decide) rfl rfl (by decide) (by decide) rfl (by decide) rfl hl.1 rfl (Nat.le_of_ble_eq_true rfl) dX4_isTick_4 ⟨Nat.le_of_ble_eq_true rfl, Nat.le_of_ble_eq_true rfl⟩ (fun H locs hP hD hS => ?_)
  obtain ⟨z3, h⟩ := cz_ok h
  cases h
  exact rt_z hx hb hr (nz z3) hlocks hS hP hK hD dX4_isTick_7
theorem dX1_badOfOpening_0 : decode cX1_badOfOpening 0 = .ok (.aload_n 0, 1) := by decide +kernel
theorem dX1_badOfOpening_1 : decode cX1_badOfOpening 1 = .ok (.iload_n 1, 1) := by decide +kernel
theorem dX1_badOfOpening_2 : decode cX1_badOfOpening 2 = .ok (.invokevirtual 42, 3) := by decide +kernel
theorem dX1_badOfOpening_5 : decode cX1_badOfOpening 5 = .ok (.ifCond .ne 5, 3) := by decide +kernel
theorem dX1_badOfOpening_8 : decode cX1_badOfOpening 8 = .ok (.iconst 0, 1) := by decide +kernel
theorem dX1_badOfOpening_9 : decode cX1_badOfOpening 9 = .ok (.ireturn, 1) := by decide +kernel
theorem dX1_badOfOpening_10 : decode cX1_badOfOpening 10 = .ok (.iload_n 2, 1) := by decide +kernel
theorem dX1_badOfOpening_11 : decode cX1_badOfOpening 11 = .ok (.invokestatic 45, 3) := by decide +kernel
theorem dX1_badOfOpening_14 : decode cX1_badOfOpening 14 = .ok (.ifCond .ne 5, 3) := by decide +kernel
theorem dX1_badOfOpening_17 : decode cX1_badOfOpening 17 = .ok (.iconst 1, 1) := by decide +kernel
theorem dX1_badOfOpening_18 : decode cX1_badOfOpening 18 = .ok (.ireturn, 1) := by decide +kernel
theorem dX1_badOfOpening_19 : decode cX1_badOfOpening 19 = .ok (.iload_n 3, 1) := by decide +kernel
theorem dX1_badOfOpening_20 : decode cX1_badOfOpening 20 = .ok (.invokestatic 45, 3) := by decide +kernel
theorem dX1_badOfOpening_23 : decode cX1_badOfOpening 23 = .ok (.ifCond .eq 7, 3) := by decide +kernel
theorem dX1_badOfOpening_26 : decode cX1_badOfOpening 26 = .ok (.iconst (-1), 1) := by decide +kernel
theorem dX1_badOfOpening_27 : decode cX1_badOfOpening 27 = .ok (.goto 4, 3) := by decide +kernel
theorem dX1_badOfOpening_30 : decode cX1_badOfOpening 30 = .ok (.iconst 2, 1) := by decide +kernel
theorem dX1_badOfOpening_31 : decode cX1_badOfOpening 31 = .ok (.ireturn, 1) := by decide +kernel
set_option maxHeartbeats 4000000 in
set_option maxRecDepth 100000 in
theorem c_X1_badOfOpening (l : Launch) (D : va_G) (cI cC cO : ClassId) (a : Nat → Nat) (L : Mm) (x1 x2 x3 : Int32) (res : Int32) (sz : Nat) (h : F_X1_badOfOpening L x1 x2 x3 = some res) : Met l yX1_badOfOpening (Cond.code yX1_badOfOpening cX1_badOfOpening 4 (Option.some Jvm.ClassFile.FieldType.int) :: lw_g) ({ frames := 2, cells := 0, slots := 0, locals := 43 } : Room) (va_Pc [.ref (a 0), .int x1, .int x2, .int x3] (pS D cI cC cO sz (wX1 a cI cC cO L))) (QI D cI cC cO (va_A (wX1 a cI cC cO L) sz) (wX1 a cI cC cO L) res) 0 0 (va_A (wX1 a cI cC cO L) sz) := by
  refine Met.ofW (cc := cX1_badOfOpening) (maxL := 4) (ret := (Option.some Jvm.ClassFile.FieldType.int)) (by decide) rfl ?_
  intro p e s m args below meth c s₁ B hml hv
  obtain ⟨rfl, rfl, hP, hK, hD0, hN⟩ := hv
  have hx := B.exec
  have hb := B.bytes
  have hr := B.returns
  have ht : ∀ w ∈ lw_g, w.before ([.ref (a 0), .int x1, .int x2, .int x3] : List Value).toArray s = true := fun w hw => atoms_spec (ws := Cond.code yX1_badOfOpening cX1_badOfOpening 4 (Option.some Jvm.ClassFile.FieldType.int) :: lw_g) B.pre w (List.mem_cons_of_mem _ hw)
  have hown : s.vm.findClass RX1 = some m.cls := findClass_of_methodNamed B.named
  have hlocks := B.notSynchronized
  have hD := hD0.self (sz := s.heap.size)
  generalize hAe : va_A (wX1 a cI cC cO L) s.heap.size = A at hD ⊢
  have hA : ∀ q : Nat, s.heap.size ≤ q → A q := fun q hq => by rw [← hAe]; exact Or.inr hq
  have hS : va_S A s.heap s.heap [] := va_S.rf
  have hl := lv_entry ([.ref (a 0), .int x1, .int x2, .int x3]) (n := 4) (Nat.le_of_ble_eq_true rfl)
  rw [lg_entry_eq]
  generalize (lg_sl ([.ref (a 0), .int x1, .int x2, .int x3]) ++ List.replicate (4 - (lg_sl ([.ref (a 0), .int x1, .int x2, .int x3])).length) Slot.unset).toArray = ls at hl ⊢
  have hl : lv_has ls 4 [(0, .ref (a 0)), (1, .int x1), (2, .int x2), (3, .int x3)] := hl
  unfold F_X1_badOfOpening at h
  refine lv_aload_n hx hb dX1_badOfOpening_0 rfl (lv_at hl 0 rfl) ?_
  refine lv_iload_n hx hb dX1_badOfOpening_1 rfl (lv_at hl 1 rfl) ?_
  obtain ⟨u1, e2, h⟩ := b1_ok h
  refine cl_Vi (ws' := (wX1 a cI cC cO L)) ⟨hx, hb, hml, hown, ht⟩ (c_X1_isPipe l D cI cC cO a L x1 _ _ e2) (cwv 1 ht wd_222 wd_2 wd_235 wd_220 wd_221 (by decide +kernel) rfl rfl ⟨Nat.le_of_ble_eq_true rfl, Nat.le_of_ble_eq_true rfl⟩) 1 0 rfl rfl rfl hK hP hD hS hA hN [0, 1, 2, 3] [] [0, 1, 2, 3] (by decide) rfl rfl (by decide) (by decide) rfl (by decide) rfl hl.1 rfl (Nat.le_of_ble_eq_true rfl) dX1_badOfOpening_2 ⟨Nat.le_of_ble_eq_true rfl, Nat.le_of_ble_eq_true rfl⟩ (fun H locs hP hD hS => ?_)
  refine lv_if_ne (tgt := 10) hx hb dX1_badOfOpening_5 (by decide) (fun c3 => ?_) (fun c3 => ?_)
  · replace h := fn c3 h
    refine lv_iload_n hx hb dX1_badOfOpening_10 rfl (lv_at hl 2 rfl) ?_
    obtain ⟨u4, e5, h⟩ := b1_ok h
    refine cl_Ni (ws' := (wX1 a cI cC cO L)) ⟨hx, hb, hml, hown, ht⟩ (c_X4_isTick l D cI cC cO x2 _ _ e5) ⟨va_cnB 1 ht (gI wd_238) rfl rfl rfl (hN.2 _ _ _ _ wd_236) (ht _ wd_1) (by decide +kernel) ⟨Nat.le_of_ble_eq_true rfl, Nat.le_of_ble_eq_true rfl⟩, ht _ wd_237, trivial⟩ hK hP hD hS hA hN [] [0, 1, 2, 3] [0, 1, 2, 3] (by decide) rfl rfl (by decide) (by decide) rfl (by decide) rfl hl.1 rfl (Nat.le_of_ble_eq_true rfl) dX1_badOfOpening_11 ⟨Nat.le_of_ble_eq_true rfl, Nat.le_of_ble_eq_true rfl⟩ (fun H locs hP hD hS => ?_)
    refine lv_if_ne (tgt := 19) hx hb dX1_badOfOpening_14 (by decide) (fun c6 => ?_) (fun c6 => ?_)
    · replace h := fn c6 h
      refine lv_iload_n hx hb dX1_badOfOpening_19 rfl (lv_at hl 3 rfl) ?_
      obtain ⟨u7, e8, h⟩ := b1_ok h
      refine cl_Ni (ws' := (wX1 a cI cC cO L)) ⟨hx, hb, hml, hown, ht⟩ (c_X4_isTick l D cI cC cO x3 _ _ e8) ⟨va_cnB 1 ht (gI wd_238) rfl rfl rfl (hN.2 _ _ _ _ wd_236) (ht _ wd_1) (by decide +kernel) ⟨Nat.le_of_ble_eq_true rfl, Nat.le_of_ble_eq_true rfl⟩, ht _ wd_237, trivial⟩ hK hP hD hS hA hN [] [0, 1, 2, 3] [0, 1, 2, 3] (by decide) rfl rfl (by decide) (by decide) rfl (by decide) rfl hl.1 rfl (Nat.le_of_ble_eq_true rfl) dX1_badOfOpening_20 ⟨Nat.le_of_ble_eq_true rfl, Nat.le_of_ble_eq_true rfl⟩ (fun H locs hP hD hS => ?_)
      refine lv_if_eq (tgt := 30) hx hb dX1_badOfOpening_23 (by decide) (fun c9 => ?_) (fun c9 => ?_)
      · replace h := fp c9 h
        refine lv_iconst (v := (2 : Int32)) hx hb dX1_badOfOpening_30 (by decide) ?_
        cases h
        exact rt_i hx hb hr hlocks hS hP hK hD dX1_badOfOpening_31
      · replace h := fn c9 h
        refine lv_iconst (v := (-1 : Int32)) hx hb dX1_badOfOpening_26 (by decide) ?_
        refine lv_goto (tgt := 31) hx hb dX1_badOfOpening_27 (by decide) ?_
        cases h
        exact rt_i hx hb hr hlocks hS hP hK hD dX1_badOfOpening_31
    · replace h := fp c6 h
      refine lv_iconst (v := (1 : Int32)) hx hb dX1_badOfOpening_17 (by decide) ?_
      cases h
      exact rt_i hx hb hr hlocks hS hP hK hD dX1_badOfOpening_18
  · replace h := fp c3 h
    refine lv_iconst (v := (0 : Int32)) hx hb dX1_badOfOpening_8 (by decide) ?_
    cases h
    exact rt_i hx hb hr hlocks hS hP hK hD dX1_badOfOpening_9
theorem dX1_badOfUnits_0 : decode cX1_badOfUnits 0 = .ok (.aload_n 0, 1) := by decide +kernel
theorem dX1_badOfUnits_1 : decode cX1_badOfUnits 1 = .ok (.iload_n 1, 1) := by decide +kernel
theorem dX1_badOfUnits_2 : decode cX1_badOfUnits 2 = .ok (.invokevirtual 38, 3) := by decide +kernel
theorem dX1_badOfUnits_5 : decode cX1_badOfUnits 5 = .ok (.ifCond .ne 5, 3) := by decide +kernel
theorem dX1_badOfUnits_8 : decode cX1_badOfUnits 8 = .ok (.iconst 0, 1) := by decide +kernel
theorem dX1_badOfUnits_9 : decode cX1_badOfUnits 9 = .ok (.ireturn, 1) := by decide +kernel
theorem dX1_badOfUnits_10 : decode cX1_badOfUnits 10 = .ok (.iload_n 2, 1) := by decide +kernel
theorem dX1_badOfUnits_11 : decode cX1_badOfUnits 11 = .ok (.iconst 0, 1) := by decide +kernel
theorem dX1_badOfUnits_12 : decode cX1_badOfUnits 12 = .ok (.bipush 20, 2) := by decide +kernel
theorem dX1_badOfUnits_14 : decode cX1_badOfUnits 14 = .ok (.invokestatic 34, 3) := by decide +kernel
theorem dX1_badOfUnits_17 : decode cX1_badOfUnits 17 = .ok (.ifCond .eq 7, 3) := by decide +kernel
theorem dX1_badOfUnits_20 : decode cX1_badOfUnits 20 = .ok (.iconst (-1), 1) := by decide +kernel
theorem dX1_badOfUnits_21 : decode cX1_badOfUnits 21 = .ok (.goto 4, 3) := by decide +kernel
theorem dX1_badOfUnits_24 : decode cX1_badOfUnits 24 = .ok (.iconst 1, 1) := by decide +kernel
theorem dX1_badOfUnits_25 : decode cX1_badOfUnits 25 = .ok (.ireturn, 1) := by decide +kernel
set_option maxHeartbeats 4000000 in
set_option maxRecDepth 100000 in
theorem c_X1_badOfUnits (l : Launch) (D : va_G) (cI cC cO : ClassId) (a : Nat → Nat) (L : Mm) (x1 x2 : Int32) (res : Int32) (sz : Nat) (h : F_X1_badOfUnits L x1 x2 = some res) : Met l yX1_badOfUnits (Cond.code yX1_badOfUnits cX1_badOfUnits 3 (Option.some Jvm.ClassFile.FieldType.int) :: lw_g) ({ frames := 2, cells := 0, slots := 0, locals := 43 } : Room) (va_Pc [.ref (a 0), .int x1, .int x2] (pS D cI cC cO sz (wX1 a cI cC cO L))) (QI D cI cC cO (va_A (wX1 a cI cC cO L) sz) (wX1 a cI cC cO L) res) 0 0 (va_A (wX1 a cI cC cO L) sz) := by
  refine Met.ofW (cc := cX1_badOfUnits) (maxL := 3) (ret := (Option.some Jvm.ClassFile.FieldType.int)) (by decide) rfl ?_
  intro p e s m args below meth c s₁ B hml hv
  obtain ⟨rfl, rfl, hP, hK, hD0, hN⟩ := hv
  have hx := B.exec
  have hb := B.bytes
  have hr := B.returns
  have ht : ∀ w ∈ lw_g, w.before ([.ref (a 0), .int x1, .int x2] : List Value).toArray s = true := fun w hw => atoms_spec (ws := Cond.code yX1_badOfUnits cX1_badOfUnits 3 (Option.some Jvm.ClassFile.FieldType.int) :: lw_g) B.pre w (List.mem_cons_of_mem _ hw)
  have hown : s.vm.findClass RX1 = some m.cls := findClass_of_methodNamed B.named
  have hlocks := B.notSynchronized
  have hD := hD0.self (sz := s.heap.size)
  generalize hAe : va_A (wX1 a cI cC cO L) s.heap.size = A at hD ⊢
  have hA : ∀ q : Nat, s.heap.size ≤ q → A q := fun q hq => by rw [← hAe]; exact Or.inr hq
  have hS : va_S A s.heap s.heap [] := va_S.rf
  have hl := lv_entry ([.ref (a 0), .int x1, .int x2]) (n := 3) (Nat.le_of_ble_eq_true rfl)
  rw [lg_entry_eq]
  generalize (lg_sl ([.ref (a 0), .int x1, .int x2]) ++ List.replicate (3 - (lg_sl ([.ref (a 0), .int x1, .int x2])).length) Slot.unset).toArray = ls at hl ⊢
  have hl : lv_has ls 3 [(0, .ref (a 0)), (1, .int x1), (2, .int x2)] := hl
  unfold F_X1_badOfUnits at h
  refine lv_aload_n hx hb dX1_badOfUnits_0 rfl (lv_at hl 0 rfl) ?_
  refine lv_iload_n hx hb dX1_badOfUnits_1 rfl (lv_at hl 1 rfl) ?_
  obtain ⟨u1, e2, h⟩ := b1_ok h
  refine cl_Vi (ws' := (wX1 a cI cC cO L)) ⟨hx, hb, hml, hown, ht⟩ (c_X1_isPlace l D cI cC cO a L x1 _ _ e2) (cwv 1 ht wd_198 wd_2 wd_195 wd_196 wd_197 (by decide +kernel) rfl rfl ⟨Nat.le_of_ble_eq_true rfl, Nat.le_of_ble_eq_true rfl⟩) 1 0 rfl rfl rfl hK hP hD hS hA hN [0, 1, 2, 3] [] [0, 1, 2, 3] (by decide) rfl rfl (by decide) (by decide) rfl (by decide) rfl hl.1 rfl (Nat.le_of_ble_eq_true rfl) dX1_badOfUnits_2 ⟨Nat.le_of_ble_eq_true rfl, Nat.le_of_ble_eq_true rfl⟩ (fun H locs hP hD hS => ?_)
  refine lv_if_ne (tgt := 10) hx hb dX1_badOfUnits_5 (by decide) (fun c3 => ?_) (fun c3 => ?_)
  · replace h := fn c3 h
    refine lv_iload_n hx hb dX1_badOfUnits_10 rfl (lv_at hl 2 rfl) ?_
    refine lv_iconst (v := (0 : Int32)) hx hb dX1_badOfUnits_11 (by decide) ?_
    refine lv_bipush (v := (20 : Int32)) hx hb dX1_badOfUnits_12 (by decide) ?_
    obtain ⟨u4, e5, h⟩ := b1_ok h
    refine cl_Ni (ws' := (wX1 a cI cC cO L)) ⟨hx, hb, hml, hown, ht⟩ (c_X4_within l D cI cC cO x2 (0 : Int32) (20 : Int32) _ _ e5) ⟨va_cnB 3 ht (gI wd_161) rfl rfl rfl (hN.2 _ _ _ _ wd_159) (ht _ wd_1) (by decide +kernel) ⟨Nat.le_of_ble_eq_true rfl, Nat.le_of_ble_eq_true rfl⟩, ht _ wd_160, trivial⟩ hK hP hD hS hA hN [] [0, 1, 2, 3] [0, 1, 2, 3] (by decide) rfl rfl (by decide) (by decide) rfl (by decide) rfl hl.1 rfl (Nat.le_of_ble_eq_true rfl) dX1_badOfUnits_14 ⟨Nat.le_of_ble_eq_true rfl, Nat.le_of_ble_eq_true rfl⟩ (fun H locs hP hD hS => ?_)
    refine lv_if_eq (tgt := 24) hx hb dX1_badOfUnits_17 (by decide) (fun c6 => ?_) (fun c6 => ?_)
    · replace h := fp c6 h
      refine lv_iconst (v := (1 : Int32)) hx hb dX1_badOfUnits_24 (by decide) ?_
      cases h
      exact rt_i hx hb hr hlocks hS hP hK hD dX1_badOfUnits_25
    · replace h := fn c6 h
      refine lv_iconst (v := (-1 : Int32)) hx hb dX1_badOfUnits_20 (by decide) ?_
      refine lv_goto (tgt := 25) hx hb dX1_badOfUnits_21 (by decide) ?_
      cases h
      exact rt_i hx hb hr hlocks hS hP hK hD dX1_badOfUnits_25
  · replace h := fp c3 h
    refine lv_iconst (v := (0 : Int32)) hx hb dX1_badOfUnits_8 (by decide) ?_
    cases h
    exact rt_i hx hb hr hlocks hS hP hK hD dX1_badOfUnits_9
theorem dX1_addPlace_0 : decode cX1_addPlace 0 = .ok (.aload_n 0, 1) := by decide +kernel
theorem dX1_addPlace_1 : decode cX1_addPlace 1 = .ok (.getfield 9, 3) := by decide +kernel
theorem dX1_addPlace_4 : decode cX1_addPlace 4 = .ok (.aload_n 0, 1) := by decide +kernel
theorem dX1_addPlace_5 : decode cX1_addPlace 5 = .ok (.getfield 21, 3) := by decide +kernel
theorem dX1_addPlace_8 : decode cX1_addPlace 8 = .ok (.iload_n 1, 1) := by decide +kernel
theorem dX1_addPlace_9 : decode cX1_addPlace 9 = .ok (.iastore, 1) := by decide +kernel
theorem dX1_addPlace_10 : decode cX1_addPlace 10 = .ok (.aload_n 0, 1) := by decide +kernel
theorem dX1_addPlace_11 : decode cX1_addPlace 11 = .ok (.getfield 15, 3) := by decide +kernel
theorem dX1_addPlace_14 : decode cX1_addPlace 14 = .ok (.aload_n 0, 1) := by decide +kernel
theorem dX1_addPlace_15 : decode cX1_addPlace 15 = .ok (.getfield 21, 3) := by decide +kernel
theorem dX1_addPlace_18 : decode cX1_addPlace 18 = .ok (.iload_n 2, 1) := by decide +kernel
theorem dX1_addPlace_19 : decode cX1_addPlace 19 = .ok (.iastore, 1) := by decide +kernel
theorem dX1_addPlace_20 : decode cX1_addPlace 20 = .ok (.aload_n 0, 1) := by decide +kernel
theorem dX1_addPlace_21 : decode cX1_addPlace 21 = .ok (.dup, 1) := by decide +kernel
theorem dX1_addPlace_22 : decode cX1_addPlace 22 = .ok (.getfield 21, 3) := by decide +kernel
theorem dX1_addPlace_25 : decode cX1_addPlace 25 = .ok (.iconst 1, 1) := by decide +kernel
theorem dX1_addPlace_26 : decode cX1_addPlace 26 = .ok (.iadd, 1) := by decide +kernel
theorem dX1_addPlace_27 : decode cX1_addPlace 27 = .ok (.putfield 21, 3) := by decide +kernel
theorem dX1_addPlace_30 : decode cX1_addPlace 30 = .ok (.aload_n 0, 1) := by decide +kernel
theorem dX1_addPlace_31 : decode cX1_addPlace 31 = .ok (.getfield 21, 3) := by decide +kernel
theorem dX1_addPlace_34 : decode cX1_addPlace 34 = .ok (.iconst 1, 1) := by decide +kernel
theorem dX1_addPlace_35 : decode cX1_addPlace 35 = .ok (.isub, 1) := by decide +kernel
theorem dX1_addPlace_36 : decode cX1_addPlace 36 = .ok (.ireturn, 1) := by decide +kernel
set_option maxHeartbeats 4000000 in
set_option maxRecDepth 100000 in
theorem c_X1_addPlace (l : Launch) (D : va_G) (cI cC cO : ClassId) (a : Nat → Nat) (L : Mm) (x1 x2 : Int32) (res : Int32 × Mm) (sz : Nat) (h : F_X1_addPlace L x1 x2 = some res) : Met l yX1_addPlace (Cond.code yX1_addPlace cX1_addPlace 3 (Option.some Jvm.ClassFile.FieldType.int) :: lw_g) ({ frames := 0, cells := 0, slots := 0, locals := 0 } : Room) (va_Pc [.ref (a 0), .int x1, .int x2] (pS D cI cC cO sz (wX1 a cI cC cO L))) (QI D cI cC cO (va_A (wX1 a cI cC cO L) sz) (wX1 a cI cC cO res.2) res.1) 0 0 (va_A (wX1 a cI cC cO L) sz) := by
  refine Met.ofW (cc := cX1_addPlace) (maxL := 3) (ret := (Option.some Jvm.ClassFile.FieldType.int)) (by decide) rfl ?_
  intro p e s m args below meth c s₁ B hml hv
  obtain ⟨rfl, rfl, hP, hK, hD0, hN⟩ := hv
  have hx := B.exec
  have hb := B.bytes
  have hr := B.returns
  have ht : ∀ w ∈ lw_g, w.before ([.ref (a 0), .int x1, .int x2] : List Value).toArray s = true := fun w hw => atoms_spec (ws := Cond.code yX1_addPlace cX1_addPlace 3 (Option.some Jvm.ClassFile.FieldType.int) :: lw_g) B.pre w (List.mem_cons_of_mem _ hw)
  have hown : s.vm.findClass RX1 = some m.cls := findClass_of_methodNamed B.named
  have hlocks := B.notSynchronized
  have hD := hD0.self (sz := s.heap.size)
  generalize hAe : va_A (wX1 a cI cC cO L) s.heap.size = A at hD ⊢
  have hA : ∀ q : Nat, s.heap.size ≤ q → A q := fun q hq => by rw [← hAe]; exact Or.inr hq
  have hS : va_S A s.heap s.heap [] := va_S.rf
  have hl := lv_entry ([.ref (a 0), .int x1, .int x2]) (n := 3) (Nat.le_of_ble_eq_true rfl)
  rw [lg_entry_eq]
  generalize (lg_sl ([.ref (a 0), .int x1, .int x2]) ++ List.replicate (3 - (lg_sl ([.ref (a 0), .int x1, .int x2])).length) Slot.unset).toArray = ls at hl ⊢
  have hl : lv_has ls 3 [(0, .ref (a 0)), (1, .int x1), (2, .int x2)] := hl
  unfold F_X1_addPlace at h
  refine lv_aload_n hx hb dX1_addPlace_0 rfl (lv_at hl 0 rfl) ?_
  refine va_get (D := D) (ci := 1) (v := .ref (a 1)) (C := RX1) (T := TX1) (N := 5) hx hb ht i_X1 hown hK hP 0 rfl rfl 0 (by decide) (ht _ wd_24) (fun _ h9 => h9) rfl dX1_addPlace_1 ?_
  refine lv_aload_n hx hb dX1_addPlace_4 rfl (lv_at hl 0 rfl) ?_
  refine va_get (D := D) (ci := 1) (v := .int (L 3 0)) (C := RX1) (T := TX1) (N := 5) hx hb ht i_X1 hown hK hP 0 rfl rfl 3 (by decide) (ht _ wd_32) (fun _ h9 => h9) rfl dX1_addPlace_5 ?_
  refine lv_iload_n hx hb dX1_addPlace_8 rfl (lv_at hl 1 rfl) ?_
  obtain ⟨i1, h⟩ := ck_ok h
  refine va_iast hx hb hK hP hD hS 1 0 rfl rfl i1 dX1_addPlace_9 (fun H locs hP hD hS => ?_)
  obtain ⟨L2, e3, h⟩ := sv_ok h
  have hP : va_P D classes (wX1 a cI cC cO L2) H := by rw [← e3]; exact hP
  have hD : va_D A (wX1 a cI cC cO L2) := by rw [← e3]; exact hD
  refine lv_aload_n hx hb dX1_addPlace_10 rfl (lv_at hl 0 rfl) ?_
  refine va_get (D := D) (ci := 1) (v := .ref (a 2)) (C := RX1) (T := TX1) (N := 5) hx hb ht i_X1 hown hK hP 0 rfl rfl 1 (by decide) (ht _ wd_28) (fun _ h9 => h9) rfl dX1_addPlace_11 ?_
  refine lv_aload_n hx hb dX1_addPlace_14 rfl (lv_at hl 0 rfl) ?_
  refine va_get (D := D) (ci := 1) (v := .int (L2 3 0)) (C := RX1) (T := TX1) (N := 5) hx hb ht i_X1 hown hK hP 0 rfl rfl 3 (by decide) (ht _ wd_32) (fun _ h9 => h9) rfl dX1_addPlace_15 ?_
  refine lv_iload_n hx hb dX1_addPlace_18 rfl (lv_at hl 2 rfl) ?_
  obtain ⟨i4, h⟩ := ck_ok h
  refine va_iast hx hb hK hP hD hS 2 0 rfl rfl i4 dX1_addPlace_19 (fun H locs hP hD hS => ?_)
  obtain ⟨L5, e6, h⟩ := sv_ok h
  have hP : va_P D classes (wX1 a cI cC cO L5) H := by rw [← e6]; exact hP
  have hD : va_D A (wX1 a cI cC cO L5) := by rw [← e6]; exact hD
  refine lv_aload_n hx hb dX1_addPlace_20 rfl (lv_at hl 0 rfl) ?_
  refine lv_dup hx hb dX1_addPlace_21 rfl ?_
  refine va_get (D := D) (ci := 1) (v := .int (L5 3 0)) (C := RX1) (T := TX1) (N := 5) hx hb ht i_X1 hown hK hP 0 rfl rfl 3 (by decide) (ht _ wd_32) (fun _ h9 => h9) rfl dX1_addPlace_22 ?_
  refine lv_iconst (v := (1 : Int32)) hx hb dX1_addPlace_25 (by decide) ?_
  refine lv_iadd hx hb dX1_addPlace_26 ?_
  refine va_put (D := D) (ci := 1) (v := .int ((L5 3 0) + (1 : Int32))) (ty := .int) (C := RX1) (T := TX1) (N := 5) hx hb ht i_X1 tyX1 tyX1_ok nmX1 hown hK hP hD hS 0 rfl rfl 3 (by decide) (ht _ wd_32) (fun _ h9 => h9) rfl (by decide +kernel) rfl rfl (Nat.le_of_ble_eq_true rfl) dX1_addPlace_27 (fun H locs hP hD hS => ?_)
  obtain ⟨L7, e8, h⟩ := sv_ok h
  have hP : va_P D classes (wX1 a cI cC cO L7) H := by rw [← e8]; exact hP
  have hD : va_D A (wX1 a cI cC cO L7) := by rw [← e8]; exact hD
  refine lv_aload_n hx hb dX1_addPlace_30 rfl (lv_at hl 0 rfl) ?_
  refine va_get (D := D) (ci := 1) (v := .int (L7 3 0)) (C := RX1) (T := TX1) (N := 5) hx hb ht i_X1 hown hK hP 0 rfl rfl 3 (by decide) (ht _ wd_32) (fun _ h9 => h9) rfl dX1_addPlace_31 ?_
  refine lv_iconst (v := (1 : Int32)) hx hb dX1_addPlace_34 (by decide) ?_
  refine lv_isub hx hb dX1_addPlace_35 ?_
  cases h
  exact rt_i hx hb hr hlocks hS hP hK hD dX1_addPlace_36
theorem dX1_setPart_0 : decode cX1_setPart 0 = .ok (.aload_n 0, 1) := by decide +kernel
theorem dX1_setPart_1 : decode cX1_setPart 1 = .ok (.getfield 18, 3) := by decide +kernel
theorem dX1_setPart_4 : decode cX1_setPart 4 = .ok (.iload_n 1, 1) := by decide +kernel
theorem dX1_setPart_5 : decode cX1_setPart 5 = .ok (.bipush 6, 2) := by decide +kernel
theorem dX1_setPart_7 : decode cX1_setPart 7 = .ok (.imul, 1) := by decide +kernel
theorem dX1_setPart_8 : decode cX1_setPart 8 = .ok (.iload_n 2, 1) := by decide +kernel
theorem dX1_setPart_9 : decode cX1_setPart 9 = .ok (.iadd, 1) := by decide +kernel
theorem dX1_setPart_10 : decode cX1_setPart 10 = .ok (.iload_n 3, 1) := by decide +kernel
theorem dX1_setPart_11 : decode cX1_setPart 11 = .ok (.iastore, 1) := by decide +kernel
theorem dX1_setPart_12 : decode cX1_setPart 12 = .ok (.return_, 1) := by decide +kernel
set_option maxHeartbeats 4000000 in
set_option maxRecDepth 100000 in
theorem c_X1_setPart (l : Launch) (D : va_G) (cI cC cO : ClassId) (a : Nat → Nat) (L : Mm) (x1 x2 x3 : Int32) (res : Mm) (sz : Nat) (h : F_X1_setPart L x1 x2 x3 = some res) : Met l yX1_setPart (Cond.code yX1_setPart cX1_setPart 4 (Option.none : Option Jvm.ClassFile.FieldType) :: lw_g) ({ frames := 0, cells := 0, slots := 0, locals := 0 } : Room) (va_Pc [.ref (a 0), .int x1, .int x2, .int x3] (pS D cI cC cO sz (wX1 a cI cC cO L))) (QV D cI cC cO (va_A (wX1 a cI cC cO L) sz) (wX1 a cI cC cO res)) 0 0 (va_A (wX1 a cI cC cO L) sz) := by
  refine Met.ofW (cc := cX1_setPart) (maxL := 4) (ret := (Option.none : Option Jvm.ClassFile.FieldType)) (by decide) rfl ?_
  intro p e s m args below meth c s₁ B hml hv
  obtain ⟨rfl, rfl, hP, hK, hD0, hN⟩ := hv
  have hx := B.exec
  have hb := B.bytes
  have hr := B.returns
  have ht : ∀ w ∈ lw_g, w.before ([.ref (a 0), .int x1, .int x2, .int x3] : List Value).toArray s = true := fun w hw => atoms_spec (ws := Cond.code yX1_setPart cX1_setPart 4 (Option.none : Option Jvm.ClassFile.FieldType) :: lw_g) B.pre w (List.mem_cons_of_mem _ hw)
  have hown : s.vm.findClass RX1 = some m.cls := findClass_of_methodNamed B.named
  have hlocks := B.notSynchronized
  have hD := hD0.self (sz := s.heap.size)
  generalize hAe : va_A (wX1 a cI cC cO L) s.heap.size = A at hD ⊢
  have hA : ∀ q : Nat, s.heap.size ≤ q → A q := fun q hq => by rw [← hAe]; exact Or.inr hq
  have hS : va_S A s.heap s.heap [] := va_S.rf
  have hl := lv_entry ([.ref (a 0), .int x1, .int x2, .int x3]) (n := 4) (Nat.le_of_ble_eq_true rfl)
  rw [lg_entry_eq]
  generalize (lg_sl ([.ref (a 0), .int x1, .int x2, .int x3]) ++ List.replicate (4 - (lg_sl ([.ref (a 0), .int x1, .int x2, .int x3])).length) Slot.unset).toArray = ls at hl ⊢
  have hl : lv_has ls 4 [(0, .ref (a 0)), (1, .int x1), (2, .int x2), (3, .int x3)] := hl
  unfold F_X1_setPart at h
  refine lv_aload_n hx hb dX1_setPart_0 rfl (lv_at hl 0 rfl) ?_
  refine va_get (D := D) (ci := 1) (v := .ref (a 3)) (C := RX1) (T := TX1) (N := 5) hx hb ht i_X1 hown hK hP 0 rfl rfl 2 (by decide) (ht _ wd_31) (fun _ h9 => h9) rfl dX1_setPart_1 ?_
  refine lv_iload_n hx hb dX1_setPart_4 rfl (lv_at hl 1 rfl) ?_
  refine lv_bipush (v := (6 : Int32)) hx hb dX1_setPart_5 (by decide) ?_
  refine lv_imul hx hb dX1_setPart_7 ?_
  refine lv_iload_n hx hb dX1_setPart_8 rfl (lv_at hl 2 rfl) ?_
  refine lv_iadd hx hb dX1_setPart_9 ?_
  refine lv_iload_n hx hb dX1_setPart_10 rfl (lv_at hl 3 rfl) ?_
  obtain ⟨i1, h⟩ := ck_ok h
  refine va_iast hx hb hK hP hD hS 3 0 rfl rfl i1 dX1_setPart_11 (fun H locs hP hD hS => ?_)
  obtain ⟨L2, e3, h⟩ := sv_ok h
  have hP : va_P D classes (wX1 a cI cC cO L2) H := by rw [← e3]; exact hP
  have hD : va_D A (wX1 a cI cC cO L2) := by rw [← e3]; exact hD
  cases h
  exact rt_v hx hb hr hlocks hS hP hK hD dX1_setPart_12
theorem dX1_setOpening_0 : decode cX1_setOpening 0 = .ok (.aload_n 0, 1) := by decide +kernel
theorem dX1_setOpening_1 : decode cX1_setOpening 1 = .ok (.iload_n 1, 1) := by decide +kernel
theorem dX1_setOpening_2 : decode cX1_setOpening 2 = .ok (.iconst 4, 1) := by decide +kernel
theorem dX1_setOpening_3 : decode cX1_setOpening 3 = .ok (.iload_n 2, 1) := by decide +kernel
theorem dX1_setOpening_4 : decode cX1_setOpening 4 = .ok (.invokevirtual 48, 3) := by decide +kernel
theorem dX1_setOpening_7 : decode cX1_setOpening 7 = .ok (.aload_n 0, 1) := by decide +kernel
theorem dX1_setOpening_8 : decode cX1_setOpening 8 = .ok (.iload_n 1, 1) := by decide +kernel
theorem dX1_setOpening_9 : decode cX1_setOpening 9 = .ok (.iconst 5, 1) := by decide +kernel
theorem dX1_setOpening_10 : decode cX1_setOpening 10 = .ok (.iload_n 3, 1) := by decide +kernel
theorem dX1_setOpening_11 : decode cX1_setOpening 11 = .ok (.invokevirtual 48, 3) := by decide +kernel
theorem dX1_setOpening_14 : decode cX1_setOpening 14 = .ok (.return_, 1) := by decide +kernel
set_option maxHeartbeats 4000000 in
set_option maxRecDepth 100000 in
theorem c_X1_setOpening (l : Launch) (D : va_G) (cI cC cO : ClassId) (a : Nat → Nat) (L : Mm) (x1 x2 x3 : Int32) (res : Mm) (sz : Nat) (h : F_X1_setOpening L x1 x2 x3 = some res) : Met l yX1_setOpening (Cond.code yX1_setOpening cX1_setOpening 4 (Option.none : Option Jvm.ClassFile.FieldType) :: lw_g) ({ frames := 1, cells := 0, slots := 0, locals := 23 } : Room) (va_Pc [.ref (a 0), .int x1, .int x2, .int x3] (pS D cI cC cO sz (wX1 a cI cC cO L))) (QV D cI cC cO (va_A (wX1 a cI cC cO L) sz) (wX1 a cI cC cO res)) 0 0 (va_A (wX1 a cI cC cO L) sz) := by
  refine Met.ofW (cc := cX1_setOpening) (maxL := 4) (ret := (Option.none : Option Jvm.ClassFile.FieldType)) (by decide) rfl ?_
  intro p e s m args below meth c s₁ B hml hv
  obtain ⟨rfl, rfl, hP, hK, hD0, hN⟩ := hv
  have hx := B.exec
  have hb := B.bytes
  have hr := B.returns
  have ht : ∀ w ∈ lw_g, w.before ([.ref (a 0), .int x1, .int x2, .int x3] : List Value).toArray s = true := fun w hw => atoms_spec (ws := Cond.code yX1_setOpening cX1_setOpening 4 (Option.none : Option Jvm.ClassFile.FieldType) :: lw_g) B.pre w (List.mem_cons_of_mem _ hw)
  have hown : s.vm.findClass RX1 = some m.cls := findClass_of_methodNamed B.named
  have hlocks := B.notSynchronized
  have hD := hD0.self (sz := s.heap.size)
  generalize hAe : va_A (wX1 a cI cC cO L) s.heap.size = A at hD ⊢
  have hA : ∀ q : Nat, s.heap.size ≤ q → A q := fun q hq => by rw [← hAe]; exact Or.inr hq
  have hS : va_S A s.heap s.heap [] := va_S.rf
  have hl := lv_entry ([.ref (a 0), .int x1, .int x2, .int x3]) (n := 4) (Nat.le_of_ble_eq_true rfl)
  rw [lg_entry_eq]
  generalize (lg_sl ([.ref (a 0), .int x1, .int x2, .int x3]) ++ List.replicate (4 - (lg_sl ([.ref (a 0), .int x1, .int x2, .int x3])).length) Slot.unset).toArray = ls at hl ⊢
  have hl : lv_has ls 4 [(0, .ref (a 0)), (1, .int x1), (2, .int x2), (3, .int x3)] := hl
  unfold F_X1_setOpening at h
  refine lv_aload_n hx hb dX1_setOpening_0 rfl (lv_at hl 0 rfl) ?_
  refine lv_iload_n hx hb dX1_setOpening_1 rfl (lv_at hl 1 rfl) ?_
  refine lv_iconst (v := (4 : Int32)) hx hb dX1_setOpening_2 (by decide) ?_
  refine lv_iload_n hx hb dX1_setOpening_3 rfl (lv_at hl 2 rfl) ?_
  obtain ⟨L1, e2, h⟩ := b1_ok h
  refine cl_Vv (ws' := (wX1 a cI cC cO L1)) ⟨hx, hb, hml, hown, ht⟩ (c_X1_setPart l D cI cC cO a L x1 (4 : Int32) x2 _ _ e2) (cwv 3 ht wd_210 wd_2 wd_207 wd_208 wd_209 (by decide +kernel) rfl rfl ⟨Nat.le_of_ble_eq_true rfl, Nat.le_of_ble_eq_true rfl⟩) 1 0 rfl rfl rfl hK hP hD hS hA hN [0, 1, 2, 3] [] [0, 1, 2, 3] (by decide) rfl rfl (by decide) (by decide) rfl (by decide) rfl hl.1 rfl (Nat.le_of_ble_eq_true rfl) dX1_setOpening_4 ⟨Nat.le_of_ble_eq_true rfl, Nat.le_of_ble_eq_true rfl⟩ (fun H locs hP hD hS => ?_)
  refine lv_aload_n hx hb dX1_setOpening_7 rfl (lv_at hl 0 rfl) ?_
  refine lv_iload_n hx hb dX1_setOpening_8 rfl (lv_at hl 1 rfl) ?_
  refine lv_iconst (v := (5 : Int32)) hx hb dX1_setOpening_9 (by decide) ?_
  refine lv_iload_n hx hb dX1_setOpening_10 rfl (lv_at hl 3 rfl) ?_
  obtain ⟨L3, e4, h⟩ := b1_ok h
  refine cl_Vv (ws' := (wX1 a cI cC cO L3)) ⟨hx, hb, hml, hown, ht⟩ (c_X1_setPart l D cI cC cO a L1 x1 (5 : Int32) x3 _ _ e4) (cwv 3 ht wd_210 wd_2 wd_207 wd_208 wd_209 (by decide +kernel) rfl rfl ⟨Nat.le_of_ble_eq_true rfl, Nat.le_of_ble_eq_true rfl⟩) 1 0 rfl rfl rfl hK hP hD hS hA hN [0, 1, 2, 3] [] [0, 1, 2, 3] (by decide) rfl rfl (by decide) (by decide) rfl (by decide) rfl hl.1 rfl (Nat.le_of_ble_eq_true rfl) dX1_setOpening_11 ⟨Nat.le_of_ble_eq_true rfl, Nat.le_of_ble_eq_true rfl⟩ (fun H locs hP hD hS => ?_)
  cases h
  exact rt_v hx hb hr hlocks hS hP hK hD dX1_setOpening_14
theorem dX1_addPipe_0 : decode cX1_addPipe 0 = .ok (.aload_n 0, 1) := by decide +kernel
theorem dX1_addPipe_1 : decode cX1_addPipe 1 = .ok (.getfield 25, 3) := by decide +kernel
theorem dX1_addPipe_4 : decode cX1_addPipe 4 = .ok (.istore 5, 2) := by decide +kernel
theorem dX1_addPipe_6 : decode cX1_addPipe 6 = .ok (.aload_n 0, 1) := by decide +kernel
theorem dX1_addPipe_7 : decode cX1_addPipe 7 = .ok (.dup, 1) := by decide +kernel
theorem dX1_addPipe_8 : decode cX1_addPipe 8 = .ok (.getfield 25, 3) := by decide +kernel
theorem dX1_addPipe_11 : decode cX1_addPipe 11 = .ok (.iconst 1, 1) := by decide +kernel
theorem dX1_addPipe_12 : decode cX1_addPipe 12 = .ok (.iadd, 1) := by decide +kernel
theorem dX1_addPipe_13 : decode cX1_addPipe 13 = .ok (.putfield 25, 3) := by decide +kernel
theorem dX1_addPipe_16 : decode cX1_addPipe 16 = .ok (.aload_n 0, 1) := by decide +kernel
theorem dX1_addPipe_17 : decode cX1_addPipe 17 = .ok (.iload 5, 2) := by decide +kernel
theorem dX1_addPipe_19 : decode cX1_addPipe 19 = .ok (.iconst 0, 1) := by decide +kernel
theorem dX1_addPipe_20 : decode cX1_addPipe 20 = .ok (.iload_n 1, 1) := by decide +kernel
theorem dX1_addPipe_21 : decode cX1_addPipe 21 = .ok (.invokevirtual 48, 3) := by decide +kernel
theorem dX1_addPipe_24 : decode cX1_addPipe 24 = .ok (.aload_n 0, 1) := by decide +kernel
theorem dX1_addPipe_25 : decode cX1_addPipe 25 = .ok (.iload 5, 2) := by decide +kernel
theorem dX1_addPipe_27 : decode cX1_addPipe 27 = .ok (.iconst 1, 1) := by decide +kernel
theorem dX1_addPipe_28 : decode cX1_addPipe 28 = .ok (.iload_n 2, 1) := by decide +kernel
theorem dX1_addPipe_29 : decode cX1_addPipe 29 = .ok (.invokevirtual 48, 3) := by decide +kernel
theorem dX1_addPipe_32 : decode cX1_addPipe 32 = .ok (.aload_n 0, 1) := by decide +kernel
theorem dX1_addPipe_33 : decode cX1_addPipe 33 = .ok (.iload 5, 2) := by decide +kernel
theorem dX1_addPipe_35 : decode cX1_addPipe 35 = .ok (.iconst 2, 1) := by decide +kernel
theorem dX1_addPipe_36 : decode cX1_addPipe 36 = .ok (.iload_n 3, 1) := by decide +kernel
theorem dX1_addPipe_37 : decode cX1_addPipe 37 = .ok (.invokevirtual 48, 3) := by decide +kernel
theorem dX1_addPipe_40 : decode cX1_addPipe 40 = .ok (.aload_n 0, 1) := by decide +kernel
theorem dX1_addPipe_41 : decode cX1_addPipe 41 = .ok (.iload 5, 2) := by decide +kernel
theorem dX1_addPipe_43 : decode cX1_addPipe 43 = .ok (.iconst 3, 1) := by decide +kernel
theorem dX1_addPipe_44 : decode cX1_addPipe 44 = .ok (.iload 4, 2) := by decide +kernel
theorem dX1_addPipe_46 : decode cX1_addPipe 46 = .ok (.invokevirtual 48, 3) := by decide +kernel
theorem dX1_addPipe_49 : decode cX1_addPipe 49 = .ok (.aload_n 0, 1) := by decide +kernel
theorem dX1_addPipe_50 : decode cX1_addPipe 50 = .ok (.iload 5, 2) := by decide +kernel
theorem dX1_addPipe_52 : decode cX1_addPipe 52 = .ok (.iconst 0, 1) := by decide +kernel
theorem dX1_addPipe_53 : decode cX1_addPipe 53 = .ok (.bipush 15, 2) := by decide +kernel
theorem dX1_addPipe_55 : decode cX1_addPipe 55 = .ok (.invokevirtual 52, 3) := by decide +kernel
theorem dX1_addPipe_58 : decode cX1_addPipe 58 = .ok (.iload 5, 2) := by decide +kernel
theorem dX1_addPipe_60 : decode cX1_addPipe 60 = .ok (.ireturn, 1) := by decide +kernel
set_option maxHeartbeats 4000000 in
set_option maxRecDepth 100000 in
theorem c_X1_addPipe (l : Launch) (D : va_G) (cI cC cO : ClassId) (a : Nat → Nat) (L : Mm) (x1 x2 x3 x4 : Int32) (res : Int32 × Mm) (sz : Nat) (h : F_X1_addPipe L x1 x2 x3 x4 = some res) : Met l yX1_addPipe (Cond.code yX1_addPipe cX1_addPipe 6 (Option.some Jvm.ClassFile.FieldType.int) :: lw_g) ({ frames := 2, cells := 0, slots := 0, locals := 46 } : Room) (va_Pc [.ref (a 0), .int x1, .int x2, .int x3, .int x4] (pS D cI cC cO sz (wX1 a cI cC cO L))) (QI D cI cC cO (va_A (wX1 a cI cC cO L) sz) (wX1 a cI cC cO res.2) res.1) 0 0 (va_A (wX1 a cI cC cO L) sz) := by
  refine Met.ofW (cc := cX1_addPipe) (maxL := 6) (ret := (Option.some Jvm.ClassFile.FieldType.int)) (by decide) rfl ?_
  intro p e s m args below meth c s₁ B hml hv
  obtain ⟨rfl, rfl, hP, hK, hD0, hN⟩ := hv
  have hx := B.exec
  have hb := B.bytes
  have hr := B.returns
  have ht : ∀ w ∈ lw_g, w.before ([.ref (a 0), .int x1, .int x2, .int x3, .int x4] : List Value).toArray s = true := fun w hw => atoms_spec (ws := Cond.code yX1_addPipe cX1_addPipe 6 (Option.some Jvm.ClassFile.FieldType.int) :: lw_g) B.pre w (List.mem_cons_of_mem _ hw)
  have hown : s.vm.findClass RX1 = some m.cls := findClass_of_methodNamed B.named
  have hlocks := B.notSynchronized
  have hD := hD0.self (sz := s.heap.size)
  generalize hAe : va_A (wX1 a cI cC cO L) s.heap.size = A at hD ⊢
  have hA : ∀ q : Nat, s.heap.size ≤ q → A q := fun q hq => by rw [← hAe]; exact Or.inr hq
  have hS : va_S A s.heap s.heap [] := va_S.rf
  have hl := lv_entry ([.ref (a 0), .int x1, .int x2, .int x3, .int x4]) (n := 6) (Nat.le_of_ble_eq_true rfl)
  rw [lg_entry_eq]
  generalize (lg_sl ([.ref (a 0), .int x1, .int x2, .int x3, .int x4]) ++ List.replicate (6 - (lg_sl ([.ref (a 0), .int x1, .int x2, .int x3, .int x4])).length) Slot.unset).toArray = ls at hl ⊢
  have hl : lv_has ls 6 [(0, .ref (a 0)), (1, .int x1), (2, .int x2), (3, .int x3), (4, .int x4)] := hl
  unfold F_X1_addPipe at h
  refine lv_aload_n hx hb dX1_addPipe_0 rfl (lv_at hl 0 rfl) ?_
  refine va_get (D := D) (ci := 1) (v := .int (L 3 1)) (C := RX1) (T := TX1) (N := 5) hx hb ht i_X1 hown hK hP 0 rfl rfl 4 (by decide) (ht _ wd_35) (fun _ h9 => h9) rfl dX1_addPipe_1 ?_
  refine lv_istore (lv' := [(5, .int (L 3 1)), (0, .ref (a 0)), (1, .int x1), (2, .int x2), (3, .int x3), (4, .int x4)]) hx hb dX1_addPipe_4 hl (by decide) rfl (fun ls hl => ?_)
  refine lv_aload_n hx hb dX1_addPipe_6 rfl (lv_at hl 1 rfl) ?_
  refine lv_dup hx hb dX1_addPipe_7 rfl ?_
  refine va_get (D := D) (ci := 1) (v := .int (L 3 1)) (C := RX1) (T := TX1) (N := 5) hx hb ht i_X1 hown hK hP 0 rfl rfl 4 (by decide) (ht _ wd_35) (fun _ h9 => h9) rfl dX1_addPipe_8 ?_
  refine lv_iconst (v := (1 : Int32)) hx hb dX1_addPipe_11 (by decide) ?_
  refine lv_iadd hx hb dX1_addPipe_12 ?_
  refine va_put (D := D) (ci := 1) (v := .int ((L 3 1) + (1 : Int32))) (ty := .int) (C := RX1) (T := TX1) (N := 5) hx hb ht i_X1 tyX1 tyX1_ok nmX1 hown hK hP hD hS 0 rfl rfl 4 (by decide) (ht _ wd_35) (fun _ h9 => h9) rfl (by decide +kernel) rfl rfl (Nat.le_of_ble_eq_true rfl) dX1_addPipe_13 (fun H locs hP hD hS => ?_)
  obtain ⟨L1, e2, h⟩ := sv_ok h
  have hP : va_P D classes (wX1 a cI cC cO L1) H := by rw [← e2]; exact hP
  have hD : va_D A (wX1 a cI cC cO L1) := by rw [← e2]; exact hD
  refine lv_aload_n hx hb dX1_addPipe_16 rfl (lv_at hl 1 rfl) ?_
  refine lv_iload hx hb dX1_addPipe_17 (lv_at hl 0 rfl) ?_
  refine lv_iconst (v := (0 : Int32)) hx hb dX1_addPipe_19 (by decide) ?_
  refine lv_iload_n hx hb dX1_addPipe_20 rfl (lv_at hl 2 rfl) ?_
  obtain ⟨L3, e4, h⟩ := b1_ok h
  refine cl_Vv (ws' := (wX1 a cI cC cO L3)) ⟨hx, hb, hml, hown, ht⟩ (c_X1_setPart l D cI cC cO a L1 (L 3 1) (0 : Int32) x1 _ _ e4) (cwv 3 ht wd_210 wd_2 wd_207 wd_208 wd_209 (by decide +kernel) rfl rfl ⟨Nat.le_of_ble_eq_true rfl, Nat.le_of_ble_eq_true rfl⟩) 1 0 rfl rfl rfl hK hP hD hS hA hN [0, 1, 2, 3] [] [0, 1, 2, 3] (by decide) rfl rfl (by decide) (by decide) rfl (by decide) rfl hl.1 rfl (Nat.le_of_ble_eq_true rfl) dX1_addPipe_21 ⟨Nat.le_of_ble_eq_true rfl, Nat.le_of_ble_eq_true rfl⟩ (fun H locs hP hD hS => ?_)
  refine lv_aload_n hx hb dX1_addPipe_24 rfl (lv_at hl 1 rfl) ?_
  refine lv_iload hx hb dX1_addPipe_25 (lv_at hl 0 rfl) ?_
  refine lv_iconst (v := (1 : Int32)) hx hb dX1_addPipe_27 (by decide) ?_
  refine lv_iload_n hx hb dX1_addPipe_28 rfl (lv_at hl 3 rfl) ?_
  obtain ⟨L5, e6, h⟩ := b1_ok h
  refine cl_Vv (ws' := (wX1 a cI cC cO L5)) ⟨hx, hb, hml, hown, ht⟩ (c_X1_setPart l D cI cC cO a L3 (L 3 1) (1 : Int32) x2 _ _ e6) (cwv 3 ht wd_210 wd_2 wd_207 wd_208 wd_209 (by decide +kernel) rfl rfl ⟨Nat.le_of_ble_eq_true rfl, Nat.le_of_ble_eq_true rfl⟩) 1 0 rfl rfl rfl hK hP hD hS hA hN [0, 1, 2, 3] [] [0, 1, 2, 3] (by decide) rfl rfl (by decide) (by decide) rfl (by decide) rfl hl.1 rfl (Nat.le_of_ble_eq_true rfl) dX1_addPipe_29 ⟨Nat.le_of_ble_eq_true rfl, Nat.le_of_ble_eq_true rfl⟩ (fun H locs hP hD hS => ?_)
  refine lv_aload_n hx hb dX1_addPipe_32 rfl (lv_at hl 1 rfl) ?_
  refine lv_iload hx hb dX1_addPipe_33 (lv_at hl 0 rfl) ?_
  refine lv_iconst (v := (2 : Int32)) hx hb dX1_addPipe_35 (by decide) ?_
  refine lv_iload_n hx hb dX1_addPipe_36 rfl (lv_at hl 4 rfl) ?_
  obtain ⟨L7, e8, h⟩ := b1_ok h
  refine cl_Vv (ws' := (wX1 a cI cC cO L7)) ⟨hx, hb, hml, hown, ht⟩ (c_X1_setPart l D cI cC cO a L5 (L 3 1) (2 : Int32) x3 _ _ e8) (cwv 3 ht wd_210 wd_2 wd_207 wd_208 wd_209 (by decide +kernel) rfl rfl ⟨Nat.le_of_ble_eq_true rfl, Nat.le_of_ble_eq_true rfl⟩) 1 0 rfl rfl rfl hK hP hD hS hA hN [0, 1, 2, 3] [] [0, 1, 2, 3] (by decide) rfl rfl (by decide) (by decide) rfl (by decide) rfl hl.1 rfl (Nat.le_of_ble_eq_true rfl) dX1_addPipe_37 ⟨Nat.le_of_ble_eq_true rfl, Nat.le_of_ble_eq_true rfl⟩ (fun H locs hP hD hS => ?_)
  refine lv_aload_n hx hb dX1_addPipe_40 rfl (lv_at hl 1 rfl) ?_
  refine lv_iload hx hb dX1_addPipe_41 (lv_at hl 0 rfl) ?_
  refine lv_iconst (v := (3 : Int32)) hx hb dX1_addPipe_43 (by decide) ?_
  refine lv_iload hx hb dX1_addPipe_44 (lv_at hl 5 rfl) ?_
  obtain ⟨L9, e10, h⟩ := b1_ok h
  refine cl_Vv (ws' := (wX1 a cI cC cO L9)) ⟨hx, hb, hml, hown, ht⟩ (c_X1_setPart l D cI cC cO a L7 (L 3 1) (3 : Int32) x4 _ _ e10) (cwv 3 ht wd_210 wd_2 wd_207 wd_208 wd_209 (by decide +kernel) rfl rfl ⟨Nat.le_of_ble_eq_true rfl, Nat.le_of_ble_eq_true rfl⟩) 1 0 rfl rfl rfl hK hP hD hS hA hN [0, 1, 2, 3] [] [0, 1, 2, 3] (by decide) rfl rfl (by decide) (by decide) rfl (by decide) rfl hl.1 rfl (Nat.le_of_ble_eq_true rfl) dX1_addPipe_46 ⟨Nat.le_of_ble_eq_true rfl, Nat.le_of_ble_eq_true rfl⟩ (fun H locs hP hD hS => ?_)
  refine lv_aload_n hx hb dX1_addPipe_49 rfl (lv_at hl 1 rfl) ?_
  refine lv_iload hx hb dX1_addPipe_50 (lv_at hl 0 rfl) ?_
  refine lv_iconst (v := (0 : Int32)) hx hb dX1_addPipe_52 (by decide) ?_
  refine lv_bipush (v := (15 : Int32)) hx hb dX1_addPipe_53 (by decide) ?_
  obtain ⟨L11, e12, h⟩ := b1_ok h
  refine cl_Vv (ws' := (wX1 a cI cC cO L11)) ⟨hx, hb, hml, hown, ht⟩ (c_X1_setOpening l D cI cC cO a L9 (L 3 1) (0 : Int32) (15 : Int32) _ _ e12) (cwv 3 ht wd_214 wd_2 wd_211 wd_212 wd_213 (by decide +kernel) rfl rfl ⟨Nat.le_of_ble_eq_true rfl, Nat.le_of_ble_eq_true rfl⟩) 1 0 rfl rfl rfl hK hP hD hS hA hN [0, 1, 2, 3] [] [0, 1, 2, 3] (by decide) rfl rfl (by decide) (by decide) rfl (by decide) rfl hl.1 rfl (Nat.le_of_ble_eq_true rfl) dX1_addPipe_55 ⟨Nat.le_of_ble_eq_true rfl, Nat.le_of_ble_eq_true rfl⟩ (fun H locs hP hD hS => ?_)
  refine lv_iload hx hb dX1_addPipe_58 (lv_at hl 0 rfl) ?_
  cases h
  exact rt_i hx hb hr hlocks hS hP hK hD dX1_addPipe_60
theorem dX1_removePipe_0 : decode cX1_removePipe 0 = .ok (.iload_n 1, 1) := by decide +kernel
theorem dX1_removePipe_1 : decode cX1_removePipe 1 = .ok (.iconst 1, 1) := by decide +kernel
theorem dX1_removePipe_2 : decode cX1_removePipe 2 = .ok (.iadd, 1) := by decide +kernel
theorem dX1_removePipe_3 : decode cX1_removePipe 3 = .ok (.bipush 6, 2) := by decide +kernel
theorem dX1_removePipe_5 : decode cX1_removePipe 5 = .ok (.imul, 1) := by decide +kernel
theorem dX1_removePipe_6 : decode cX1_removePipe 6 = .ok (.istore_n 2, 1) := by decide +kernel
theorem dX1_removePipe_7 : decode cX1_removePipe 7 = .ok (.aload_n 0, 1) := by decide +kernel
theorem dX1_removePipe_8 : decode cX1_removePipe 8 = .ok (.getfield 18, 3) := by decide +kernel
theorem dX1_removePipe_11 : decode cX1_removePipe 11 = .ok (.iload_n 2, 1) := by decide +kernel
theorem dX1_removePipe_12 : decode cX1_removePipe 12 = .ok (.aload_n 0, 1) := by decide +kernel
theorem dX1_removePipe_13 : decode cX1_removePipe 13 = .ok (.getfield 18, 3) := by decide +kernel
theorem dX1_removePipe_16 : decode cX1_removePipe 16 = .ok (.iload_n 1, 1) := by decide +kernel
theorem dX1_removePipe_17 : decode cX1_removePipe 17 = .ok (.bipush 6, 2) := by decide +kernel
theorem dX1_removePipe_19 : decode cX1_removePipe 19 = .ok (.imul, 1) := by decide +kernel
theorem dX1_removePipe_20 : decode cX1_removePipe 20 = .ok (.bipush 60, 2) := by decide +kernel
theorem dX1_removePipe_22 : decode cX1_removePipe 22 = .ok (.iload_n 2, 1) := by decide +kernel
theorem dX1_removePipe_23 : decode cX1_removePipe 23 = .ok (.isub, 1) := by decide +kernel
theorem dX1_removePipe_24 : decode cX1_removePipe 24 = .ok (.invokestatic 28, 3) := by decide +kernel
theorem dX1_removePipe_27 : decode cX1_removePipe 27 = .ok (.aload_n 0, 1) := by decide +kernel
theorem dX1_removePipe_28 : decode cX1_removePipe 28 = .ok (.dup, 1) := by decide +kernel
theorem dX1_removePipe_29 : decode cX1_removePipe 29 = .ok (.getfield 25, 3) := by decide +kernel
theorem dX1_removePipe_32 : decode cX1_removePipe 32 = .ok (.iconst 1, 1) := by decide +kernel
theorem dX1_removePipe_33 : decode cX1_removePipe 33 = .ok (.isub, 1) := by decide +kernel
theorem dX1_removePipe_34 : decode cX1_removePipe 34 = .ok (.putfield 25, 3) := by decide +kernel
theorem dX1_removePipe_37 : decode cX1_removePipe 37 = .ok (.return_, 1) := by decide +kernel
set_option maxHeartbeats 4000000 in
set_option maxRecDepth 100000 in
theorem c_X1_removePipe (l : Launch) (D : va_G) (cI cC cO : ClassId) (a : Nat → Nat) (L : Mm) (x1 : Int32) (res : Mm) (sz : Nat) (h : F_X1_removePipe L x1 = some res) : Met l yX1_removePipe (Cond.code yX1_removePipe cX1_removePipe 3 (Option.none : Option Jvm.ClassFile.FieldType) :: lw_g) ({ frames := 1, cells := 0, slots := 0, locals := 60 } : Room) (va_Pc [.ref (a 0), .int x1] (pS D cI cC cO sz (wX1 a cI cC cO L))) (QV D cI cC cO (va_A (wX1 a cI cC cO L) sz) (wX1 a cI cC cO res)) 0 0 (va_A (wX1 a cI cC cO L) sz) := by
  refine Met.ofW (cc := cX1_removePipe) (maxL := 3) (ret := (Option.none : Option Jvm.ClassFile.FieldType)) (by decide) rfl ?_
  intro p e s m args below meth c s₁ B hml hv
  obtain ⟨rfl, rfl, hP, hK, hD0, hN⟩ := hv
  have hx := B.exec
  have hb := B.bytes
  have hr := B.returns
  have ht : ∀ w ∈ lw_g, w.before ([.ref (a 0), .int x1] : List Value).toArray s = true := fun w hw => atoms_spec (ws := Cond.code yX1_removePipe cX1_removePipe 3 (Option.none : Option Jvm.ClassFile.FieldType) :: lw_g) B.pre w (List.mem_cons_of_mem _ hw)
  have hown : s.vm.findClass RX1 = some m.cls := findClass_of_methodNamed B.named
  have hlocks := B.notSynchronized
  have hD := hD0.self (sz := s.heap.size)
  generalize hAe : va_A (wX1 a cI cC cO L) s.heap.size = A at hD ⊢
  have hA : ∀ q : Nat, s.heap.size ≤ q → A q := fun q hq => by rw [← hAe]; exact Or.inr hq
  have hS : va_S A s.heap s.heap [] := va_S.rf
  have hl := lv_entry ([.ref (a 0), .int x1]) (n := 3) (Nat.le_of_ble_eq_true rfl)
  rw [lg_entry_eq]
  generalize (lg_sl ([.ref (a 0), .int x1]) ++ List.replicate (3 - (lg_sl ([.ref (a 0), .int x1])).length) Slot.unset).toArray = ls at hl ⊢
  have hl : lv_has ls 3 [(0, .ref (a 0)), (1, .int x1)] := hl
  unfold F_X1_removePipe at h
  refine lv_iload_n hx hb dX1_removePipe_0 rfl (lv_at hl 1 rfl) ?_
  refine lv_iconst (v := (1 : Int32)) hx hb dX1_removePipe_1 (by decide) ?_
  refine lv_iadd hx hb dX1_removePipe_2 ?_
  refine lv_bipush (v := (6 : Int32)) hx hb dX1_removePipe_3 (by decide) ?_
  refine lv_imul hx hb dX1_removePipe_5 ?_
  refine lv_istore_n (lv' := [(2, .int ((x1 + (1 : Int32)) * (6 : Int32))), (0, .ref (a 0)), (1, .int x1)]) hx hb dX1_removePipe_6 rfl hl (by decide) rfl (fun ls hl => ?_)
  refine lv_aload_n hx hb dX1_removePipe_7 rfl (lv_at hl 1 rfl) ?_
  refine va_get (D := D) (ci := 1) (v := .ref (a 3)) (C := RX1) (T := TX1) (N := 5) hx hb ht i_X1 hown hK hP 0 rfl rfl 2 (by decide) (ht _ wd_31) (fun _ h9 => h9) rfl dX1_removePipe_8 ?_
  refine lv_iload_n hx hb dX1_removePipe_11 rfl (lv_at hl 0 rfl) ?_
  refine lv_aload_n hx hb dX1_removePipe_12 rfl (lv_at hl 1 rfl) ?_
  refine va_get (D := D) (ci := 1) (v := .ref (a 3)) (C := RX1) (T := TX1) (N := 5) hx hb ht i_X1 hown hK hP 0 rfl rfl 2 (by decide) (ht _ wd_31) (fun _ h9 => h9) rfl dX1_removePipe_13 ?_
  refine lv_iload_n hx hb dX1_removePipe_16 rfl (lv_at hl 2 rfl) ?_
  refine lv_bipush (v := (6 : Int32)) hx hb dX1_removePipe_17 (by decide) ?_
  refine lv_imul hx hb dX1_removePipe_19 ?_
  refine lv_bipush (v := (60 : Int32)) hx hb dX1_removePipe_20 (by decide) ?_
  refine lv_iload_n hx hb dX1_removePipe_22 rfl (lv_at hl 0 rfl) ?_
  refine lv_isub hx hb dX1_removePipe_23 ?_
  obtain ⟨⟨g1a, g1b, g1c, g1d, g1e⟩, h⟩ := cp_ok h
  refine va_copyi hx hb (hml.trans hl.1.symm) hown (ht _ wd_180) (ht _ wd_182) (ht _ wd_181) (ht _ wd_7) hK hP hD hS 3 3 0 0 rfl rfl rfl rfl rfl g1a g1b g1c g1d g1e (fun _ _ => rfl) (Nat.le_of_ble_eq_true rfl) (Nat.le_of_ble_eq_true rfl) dX1_removePipe_24 (fun H locs hP hD hS => ?_)
  obtain ⟨L2, e3, h⟩ := sv_ok h
  have hP : va_P D classes (wX1 a cI cC cO L2) H := by rw [← e3]; exact hP
  have hD : va_D A (wX1 a cI cC cO L2) := by rw [← e3]; exact hD
  refine lv_aload_n hx hb dX1_removePipe_27 rfl (lv_at hl 1 rfl) ?_
  refine lv_dup hx hb dX1_removePipe_28 rfl ?_
  refine va_get (D := D) (ci := 1) (v := .int (L2 3 1)) (C := RX1) (T := TX1) (N := 5) hx hb ht i_X1 hown hK hP 0 rfl rfl 4 (by decide) (ht _ wd_35) (fun _ h9 => h9) rfl dX1_removePipe_29 ?_
  refine lv_iconst (v := (1 : Int32)) hx hb dX1_removePipe_32 (by decide) ?_
  refine lv_isub hx hb dX1_removePipe_33 ?_
  refine va_put (D := D) (ci := 1) (v := .int ((L2 3 1) - (1 : Int32))) (ty := .int) (C := RX1) (T := TX1) (N := 5) hx hb ht i_X1 tyX1 tyX1_ok nmX1 hown hK hP hD hS 0 rfl rfl 4 (by decide) (ht _ wd_35) (fun _ h9 => h9) rfl (by decide +kernel) rfl rfl (Nat.le_of_ble_eq_true rfl) dX1_removePipe_34 (fun H locs hP hD hS => ?_)
  obtain ⟨L4, e5, h⟩ := sv_ok h
  have hP : va_P D classes (wX1 a cI cC cO L4) H := by rw [← e5]; exact hP
  have hD : va_D A (wX1 a cI cC cO L4) := by rw [← e5]; exact hD
  cases h
  exact rt_v hx hb hr hlocks hS hP hK hD dX1_removePipe_37
theorem dX1_partOf_0 : decode cX1_partOf 0 = .ok (.aload_n 0, 1) := by decide +kernel
theorem dX1_partOf_1 : decode cX1_partOf 1 = .ok (.getfield 18, 3) := by decide +kernel
theorem dX1_partOf_4 : decode cX1_partOf 4 = .ok (.iload_n 1, 1) := by decide +kernel
theorem dX1_partOf_5 : decode cX1_partOf 5 = .ok (.bipush 6, 2) := by decide +kernel
theorem dX1_partOf_7 : decode cX1_partOf 7 = .ok (.imul, 1) := by decide +kernel
theorem dX1_partOf_8 : decode cX1_partOf 8 = .ok (.iload_n 2, 1) := by decide +kernel
theorem dX1_partOf_9 : decode cX1_partOf 9 = .ok (.iadd, 1) := by decide +kernel
theorem dX1_partOf_10 : decode cX1_partOf 10 = .ok (.iaload, 1) := by decide +kernel
theorem dX1_partOf_11 : decode cX1_partOf 11 = .ok (.ireturn, 1) := by decide +kernel
set_option maxHeartbeats 4000000 in
set_option maxRecDepth 100000 in
theorem c_X1_partOf (l : Launch) (D : va_G) (cI cC cO : ClassId) (a : Nat → Nat) (L : Mm) (x1 x2 : Int32) (res : Int32) (sz : Nat) (h : F_X1_partOf L x1 x2 = some res) : Met l yX1_partOf (Cond.code yX1_partOf cX1_partOf 3 (Option.some Jvm.ClassFile.FieldType.int) :: lw_g) ({ frames := 0, cells := 0, slots := 0, locals := 0 } : Room) (va_Pc [.ref (a 0), .int x1, .int x2] (pS D cI cC cO sz (wX1 a cI cC cO L))) (QI D cI cC cO (va_A (wX1 a cI cC cO L) sz) (wX1 a cI cC cO L) res) 0 0 (va_A (wX1 a cI cC cO L) sz) := by
  refine Met.ofW (cc := cX1_partOf) (maxL := 3) (ret := (Option.some Jvm.ClassFile.FieldType.int)) (by decide) rfl ?_
  intro p e s m args below meth c s₁ B hml hv
  obtain ⟨rfl, rfl, hP, hK, hD0, hN⟩ := hv
  have hx := B.exec
  have hb := B.bytes
  have hr := B.returns
  have ht : ∀ w ∈ lw_g, w.before ([.ref (a 0), .int x1, .int x2] : List Value).toArray s = true := fun w hw => atoms_spec (ws := Cond.code yX1_partOf cX1_partOf 3 (Option.some Jvm.ClassFile.FieldType.int) :: lw_g) B.pre w (List.mem_cons_of_mem _ hw)
  have hown : s.vm.findClass RX1 = some m.cls := findClass_of_methodNamed B.named
  have hlocks := B.notSynchronized
  have hD := hD0.self (sz := s.heap.size)
  generalize hAe : va_A (wX1 a cI cC cO L) s.heap.size = A at hD ⊢
  have hA : ∀ q : Nat, s.heap.size ≤ q → A q := fun q hq => by rw [← hAe]; exact Or.inr hq
  have hS : va_S A s.heap s.heap [] := va_S.rf
  have hl := lv_entry ([.ref (a 0), .int x1, .int x2]) (n := 3) (Nat.le_of_ble_eq_true rfl)
  rw [lg_entry_eq]
  generalize (lg_sl ([.ref (a 0), .int x1, .int x2]) ++ List.replicate (3 - (lg_sl ([.ref (a 0), .int x1, .int x2])).length) Slot.unset).toArray = ls at hl ⊢
  have hl : lv_has ls 3 [(0, .ref (a 0)), (1, .int x1), (2, .int x2)] := hl
  unfold F_X1_partOf at h
  refine lv_aload_n hx hb dX1_partOf_0 rfl (lv_at hl 0 rfl) ?_
  refine va_get (D := D) (ci := 1) (v := .ref (a 3)) (C := RX1) (T := TX1) (N := 5) hx hb ht i_X1 hown hK hP 0 rfl rfl 2 (by decide) (ht _ wd_31) (fun _ h9 => h9) rfl dX1_partOf_1 ?_
  refine lv_iload_n hx hb dX1_partOf_4 rfl (lv_at hl 1 rfl) ?_
  refine lv_bipush (v := (6 : Int32)) hx hb dX1_partOf_5 (by decide) ?_
  refine lv_imul hx hb dX1_partOf_7 ?_
  refine lv_iload_n hx hb dX1_partOf_8 rfl (lv_at hl 2 rfl) ?_
  refine lv_iadd hx hb dX1_partOf_9 ?_
  obtain ⟨i1, h⟩ := ck_ok h
  refine va_iald hx hb hK hP 3 0 rfl rfl i1 dX1_partOf_10 ?_
  cases h
  exact rt_i hx hb hr hlocks hS hP hK hD dX1_partOf_11
theorem dX1_boundIn_0 : decode cX1_boundIn 0 = .ok (.iload_n 2, 1) := by decide +kernel
theorem dX1_boundIn_1 : decode cX1_boundIn 1 = .ok (.aload_n 0, 1) := by decide +kernel
theorem dX1_boundIn_2 : decode cX1_boundIn 2 = .ok (.iload_n 1, 1) := by decide +kernel
theorem dX1_boundIn_3 : decode cX1_boundIn 3 = .ok (.iconst 4, 1) := by decide +kernel
theorem dX1_boundIn_4 : decode cX1_boundIn 4 = .ok (.invokevirtual 55, 3) := by decide +kernel
theorem dX1_boundIn_7 : decode cX1_boundIn 7 = .ok (.aload_n 0, 1) := by decide +kernel
theorem dX1_boundIn_8 : decode cX1_boundIn 8 = .ok (.iload_n 1, 1) := by decide +kernel
theorem dX1_boundIn_9 : decode cX1_boundIn 9 = .ok (.iconst 5, 1) := by decide +kernel
theorem dX1_boundIn_10 : decode cX1_boundIn 10 = .ok (.invokevirtual 55, 3) := by decide +kernel
theorem dX1_boundIn_13 : decode cX1_boundIn 13 = .ok (.invokestatic 34, 3) := by decide +kernel
theorem dX1_boundIn_16 : decode cX1_boundIn 16 = .ok (.ifCond .eq 12, 3) := by decide +kernel
theorem dX1_boundIn_19 : decode cX1_boundIn 19 = .ok (.aload_n 0, 1) := by decide +kernel
theorem dX1_boundIn_20 : decode cX1_boundIn 20 = .ok (.iload_n 1, 1) := by decide +kernel
theorem dX1_boundIn_21 : decode cX1_boundIn 21 = .ok (.iconst 3, 1) := by decide +kernel
theorem dX1_boundIn_22 : decode cX1_boundIn 22 = .ok (.invokevirtual 55, 3) := by decide +kernel
theorem dX1_boundIn_25 : decode cX1_boundIn 25 = .ok (.goto 4, 3) := by decide +kernel
theorem dX1_boundIn_28 : decode cX1_boundIn 28 = .ok (.iconst 0, 1) := by decide +kernel
theorem dX1_boundIn_29 : decode cX1_boundIn 29 = .ok (.ireturn, 1) := by decide +kernel
set_option maxHeartbeats 4000000 in
set_option maxRecDepth 100000 in
theorem c_X1_boundIn (l : Launch) (D : va_G) (cI cC cO : ClassId) (a : Nat → Nat) (L : Mm) (x1 x2 : Int32) (res : Int32) (sz : Nat) (h : F_X1_boundIn L x1 x2 = some res) : Met l yX1_boundIn (Cond.code yX1_boundIn cX1_boundIn 3 (Option.some Jvm.ClassFile.FieldType.int) :: lw_g) ({ frames := 1, cells := 0, slots := 0, locals := 22 } : Room) (va_Pc [.ref (a 0), .int x1, .int x2] (pS D cI cC cO sz (wX1 a cI cC cO L))) (QI D cI cC cO (va_A (wX1 a cI cC cO L) sz) (wX1 a cI cC cO L) res) 0 0 (va_A (wX1 a cI cC cO L) sz) := by
  refine Met.ofW (cc := cX1_boundIn) (maxL := 3) (ret := (Option.some Jvm.ClassFile.FieldType.int)) (by decide) rfl ?_
  intro p e s m args below meth c s₁ B hml hv
  obtain ⟨rfl, rfl, hP, hK, hD0, hN⟩ := hv
  have hx := B.exec
  have hb := B.bytes
  have hr := B.returns
  have ht : ∀ w ∈ lw_g, w.before ([.ref (a 0), .int x1, .int x2] : List Value).toArray s = true := fun w hw => atoms_spec (ws := Cond.code yX1_boundIn cX1_boundIn 3 (Option.some Jvm.ClassFile.FieldType.int) :: lw_g) B.pre w (List.mem_cons_of_mem _ hw)
  have hown : s.vm.findClass RX1 = some m.cls := findClass_of_methodNamed B.named
  have hlocks := B.notSynchronized
  have hD := hD0.self (sz := s.heap.size)
  generalize hAe : va_A (wX1 a cI cC cO L) s.heap.size = A at hD ⊢
  have hA : ∀ q : Nat, s.heap.size ≤ q → A q := fun q hq => by rw [← hAe]; exact Or.inr hq
  have hS : va_S A s.heap s.heap [] := va_S.rf
  have hl := lv_entry ([.ref (a 0), .int x1, .int x2]) (n := 3) (Nat.le_of_ble_eq_true rfl)
  rw [lg_entry_eq]
  generalize (lg_sl ([.ref (a 0), .int x1, .int x2]) ++ List.replicate (3 - (lg_sl ([.ref (a 0), .int x1, .int x2])).length) Slot.unset).toArray = ls at hl ⊢
  have hl : lv_has ls 3 [(0, .ref (a 0)), (1, .int x1), (2, .int x2)] := hl
  unfold F_X1_boundIn at h
  refine lv_iload_n hx hb dX1_boundIn_0 rfl (lv_at hl 2 rfl) ?_
  refine lv_aload_n hx hb dX1_boundIn_1 rfl (lv_at hl 0 rfl) ?_
  refine lv_iload_n hx hb dX1_boundIn_2 rfl (lv_at hl 1 rfl) ?_
  refine lv_iconst (v := (4 : Int32)) hx hb dX1_boundIn_3 (by decide) ?_
  obtain ⟨u1, e2, h⟩ := b1_ok h
  refine cl_Vi (ws' := (wX1 a cI cC cO L)) ⟨hx, hb, hml, hown, ht⟩ (c_X1_partOf l D cI cC cO a L x1 (4 : Int32) _ _ e2) (cwv 2 ht wd_251 wd_2 wd_278 wd_249 wd_250 (by decide +kernel) rfl rfl ⟨Nat.le_of_ble_eq_true rfl, Nat.le_of_ble_eq_true rfl⟩) 1 0 rfl rfl rfl hK hP hD hS hA hN [0, 1, 2, 3] [] [0, 1, 2, 3] (by decide) rfl rfl (by decide) (by decide) rfl (by decide) rfl hl.1 rfl (Nat.le_of_ble_eq_true rfl) dX1_boundIn_4 ⟨Nat.le_of_ble_eq_true rfl, Nat.le_of_ble_eq_true rfl⟩ (fun H locs hP hD hS => ?_)
  refine lv_aload_n hx hb dX1_boundIn_7 rfl (lv_at hl 0 rfl) ?_
  refine lv_iload_n hx hb dX1_boundIn_8 rfl (lv_at hl 1 rfl) ?_
  refine lv_iconst (v := (5 : Int32)) hx hb dX1_boundIn_9 (by decide) ?_
  obtain ⟨u3, e4, h⟩ := b1_ok h
  refine cl_Vi (ws' := (wX1 a cI cC cO L)) ⟨hx, hb, hml, hown, ht⟩ (c_X1_partOf l D cI cC cO a L x1 (5 : Int32) _ _ e4) (cwv 2 ht wd_251 wd_2 wd_278 wd_249 wd_250 (by decide +kernel) rfl rfl ⟨Nat.le_of_ble_eq_true rfl, Nat.le_of_ble_eq_true rfl⟩) 1 0 rfl rfl rfl hK hP hD hS hA hN [0, 1, 2, 3] [] [0, 1, 2, 3] (by decide) rfl rfl (by decide) (by decide) rfl (by decide) rfl hl.1 rfl (Nat.le_of_ble_eq_true rfl) dX1_boundIn_10 ⟨Nat.le_of_ble_eq_true rfl, Nat.le_of_ble_eq_true rfl⟩ (fun H locs hP hD hS => ?_)
  obtain ⟨u5, e6, h⟩ := b1_ok h
  refine cl_Ni (ws' := (wX1 a cI cC cO L)) ⟨hx, hb, hml, hown, ht⟩ (c_X4_within l D cI cC cO x2 u1 u3 _ _ e6) ⟨va_cnB 3 ht (gI wd_161) rfl rfl rfl (hN.2 _ _ _ _ wd_159) (ht _ wd_1) (by decide +kernel) ⟨Nat.le_of_ble_eq_true rfl, Nat.le_of_ble_eq_true rfl⟩, ht _ wd_160, trivial⟩ hK hP hD hS hA hN [] [0, 1, 2, 3] [0, 1, 2, 3] (by decide) rfl rfl (by decide) (by decide) rfl (by decide) rfl hl.1 rfl (Nat.le_of_ble_eq_true rfl) dX1_boundIn_13 ⟨Nat.le_of_ble_eq_true rfl, Nat.le_of_ble_eq_true rfl⟩ (fun H locs hP hD hS => ?_)
  refine lv_if_eq (tgt := 28) hx hb dX1_boundIn_16 (by decide) (fun c7 => ?_) (fun c7 => ?_)
  · replace h := fp c7 h
    refine lv_iconst (v := (0 : Int32)) hx hb dX1_boundIn_28 (by decide) ?_
    cases h
    exact rt_i hx hb hr hlocks hS hP hK hD dX1_boundIn_29
  · replace h := fn c7 h
    refine lv_aload_n hx hb dX1_boundIn_19 rfl (lv_at hl 0 rfl) ?_
    refine lv_iload_n hx hb dX1_boundIn_20 rfl (lv_at hl 1 rfl) ?_
    refine lv_iconst (v := (3 : Int32)) hx hb dX1_boundIn_21 (by decide) ?_
    obtain ⟨u8, e9, h⟩ := b1_ok h
    refine cl_Vi (ws' := (wX1 a cI cC cO L)) ⟨hx, hb, hml, hown, ht⟩ (c_X1_partOf l D cI cC cO a L x1 (3 : Int32) _ _ e9) (cwv 2 ht wd_251 wd_2 wd_278 wd_249 wd_250 (by decide +kernel) rfl rfl ⟨Nat.le_of_ble_eq_true rfl, Nat.le_of_ble_eq_true rfl⟩) 1 0 rfl rfl rfl hK hP hD hS hA hN [0, 1, 2, 3] [] [0, 1, 2, 3] (by decide) rfl rfl (by decide) (by decide) rfl (by decide) rfl hl.1 rfl (Nat.le_of_ble_eq_true rfl) dX1_boundIn_22 ⟨Nat.le_of_ble_eq_true rfl, Nat.le_of_ble_eq_true rfl⟩ (fun H locs hP hD hS => ?_)
    refine lv_goto (tgt := 29) hx hb dX1_boundIn_25 (by decide) ?_
    cases h
    exact rt_i hx hb hr hlocks hS hP hK hD dX1_boundIn_29
theorem dX1_pipesWith_0 : decode cX1_pipesWith 0 = .ok (.iconst 0, 1) := by decide +kernel
theorem dX1_pipesWith_1 : decode cX1_pipesWith 1 = .ok (.istore_n 3, 1) := by decide +kernel
theorem dX1_pipesWith_2 : decode cX1_pipesWith 2 = .ok (.iconst 0, 1) := by decide +kernel
theorem dX1_pipesWith_3 : decode cX1_pipesWith 3 = .ok (.istore 4, 2) := by decide +kernel
theorem dX1_pipesWith_5 : decode cX1_pipesWith 5 = .ok (.iload 4, 2) := by decide +kernel
theorem dX1_pipesWith_7 : decode cX1_pipesWith 7 = .ok (.aload_n 0, 1) := by decide +kernel
theorem dX1_pipesWith_8 : decode cX1_pipesWith 8 = .ok (.getfield 25, 3) := by decide +kernel
theorem dX1_pipesWith_11 : decode cX1_pipesWith 11 = .ok (.if_icmp .ge 27, 3) := by decide +kernel
theorem dX1_pipesWith_14 : decode cX1_pipesWith 14 = .ok (.aload_n 0, 1) := by decide +kernel
theorem dX1_pipesWith_15 : decode cX1_pipesWith 15 = .ok (.iload 4, 2) := by decide +kernel
theorem dX1_pipesWith_17 : decode cX1_pipesWith 17 = .ok (.iload_n 1, 1) := by decide +kernel
theorem dX1_pipesWith_18 : decode cX1_pipesWith 18 = .ok (.invokevirtual 55, 3) := by decide +kernel
theorem dX1_pipesWith_21 : decode cX1_pipesWith 21 = .ok (.iload_n 2, 1) := by decide +kernel
theorem dX1_pipesWith_22 : decode cX1_pipesWith 22 = .ok (.if_icmp .ne 10, 3) := by decide +kernel
theorem dX1_pipesWith_25 : decode cX1_pipesWith 25 = .ok (.iload_n 3, 1) := by decide +kernel
theorem dX1_pipesWith_26 : decode cX1_pipesWith 26 = .ok (.iconst 1, 1) := by decide +kernel
theorem dX1_pipesWith_27 : decode cX1_pipesWith 27 = .ok (.iload 4, 2) := by decide +kernel
theorem dX1_pipesWith_29 : decode cX1_pipesWith 29 = .ok (.ishl, 1) := by decide +kernel
theorem dX1_pipesWith_30 : decode cX1_pipesWith 30 = .ok (.ior, 1) := by decide +kernel
theorem dX1_pipesWith_31 : decode cX1_pipesWith 31 = .ok (.istore_n 3, 1) := by decide +kernel
theorem dX1_pipesWith_32 : decode cX1_pipesWith 32 = .ok (.iinc 4 1, 3) := by decide +kernel
theorem dX1_pipesWith_35 : decode cX1_pipesWith 35 = .ok (.goto (-30), 3) := by decide +kernel
theorem dX1_pipesWith_38 : decode cX1_pipesWith 38 = .ok (.iload_n 3, 1) := by decide +kernel
theorem dX1_pipesWith_39 : decode cX1_pipesWith 39 = .ok (.ireturn, 1) := by decide +kernel
set_option maxHeartbeats 4000000 in
set_option maxRecDepth 100000 in
theorem c_X1_pipesWith (l : Launch) (D : va_G) (cI cC cO : ClassId) (a : Nat → Nat) (L : Mm) (x1 x2 : Int32) (res : Int32) (sz : Nat) (h : F_X1_pipesWith L x1 x2 = some res) : Met l yX1_pipesWith (Cond.code yX1_pipesWith cX1_pipesWith 5 (Option.some Jvm.ClassFile.FieldType.int) :: lw_g) ({ frames := 1, cells := 0, slots := 0, locals := 22 } : Room) (va_Pc [.ref (a 0), .int x1, .int x2] (pS D cI cC cO sz (wX1 a cI cC cO L))) (QI D cI cC cO (va_A (wX1 a cI cC cO L) sz) (wX1 a cI cC cO L) res) 0 0 (va_A (wX1 a cI cC cO L) sz) := by
  refine Met.ofW (cc := cX1_pipesWith) (maxL := 5) (ret := (Option.some Jvm.ClassFile.FieldType.int)) (by decide) rfl ?_
  intro p e s m args below meth c s₁ B hml hv
  obtain ⟨rfl, rfl, hP, hK, hD0, hN⟩ := hv
  have hx := B.exec
  have hb := B.bytes
  have hr := B.returns
  have ht : ∀ w ∈ lw_g, w.before ([.ref (a 0), .int x1, .int x2] : List Value).toArray s = true := fun w hw => atoms_spec (ws := Cond.code yX1_pipesWith cX1_pipesWith 5 (Option.some Jvm.ClassFile.FieldType.int) :: lw_g) B.pre w (List.mem_cons_of_mem _ hw)
  have hown : s.vm.findClass RX1 = some m.cls := findClass_of_methodNamed B.named
  have hlocks := B.notSynchronized
  have hD := hD0.self (sz := s.heap.size)
  generalize hAe : va_A (wX1 a cI cC cO L) s.heap.size = A at hD ⊢
  have hA : ∀ q : Nat, s.heap.size ≤ q → A q := fun q hq => by rw [← hAe]; exact Or.inr hq
  have hS : va_S A s.heap s.heap [] := va_S.rf
  have hl := lv_entry ([.ref (a 0), .int x1, .int x2]) (n := 5) (Nat.le_of_ble_eq_true rfl)
  rw [lg_entry_eq]
  generalize (lg_sl ([.ref (a 0), .int x1, .int x2]) ++ List.replicate (5 - (lg_sl ([.ref (a 0), .int x1, .int x2])).length) Slot.unset).toArray = ls at hl ⊢
  have hl : lv_has ls 5 [(0, .ref (a 0)), (1, .int x1), (2, .int x2)] := hl
  have w5 : ∀ (n5 : Nat) (y1 y2 y3 y4 : Int32) (H : Heap) (locs : List Loc) (ls : Array Slot), F_X1_pipesWith_5 n5 L y1 y2 y3 y4 = some res → va_P D classes (wX1 a cI cC cO L) H → va_D A (wX1 a cI cC cO L) → va_S A s.heap H locs → lv_has ls 5 [(0, .ref (a 0)), (1, .int y1), (2, .int y2), (3, .int y3), (4, .int y4)] → W p l e ({ frames := 1, cells := 0, slots := 0, locals := 22 } : Room) s m ([.ref (a 0), .int x1, .int x2] : List Value).toArray below meth c H locs 0 0 (MQ below (QI D cI cC cO A (wX1 a cI cC cO L) res) ([.ref (a 0), .int x1, .int x2] : List Value).toArray s 0 0 A) (F0 m 5 ls []) := by
    intro n5
    induction n5 with
    | zero => intro y1 y2 y3 y4 H locs ls h hP hD hS hl; exact absurd (show (none : Option (Int32)) = some res from h) (by simp)
    | succ n5 ih5 =>
      intro y1 y2 y3 y4 H locs ls h hP hD hS hl
      have h : F_X1_pipesWithB_5 (F_X1_pipesWith_5 n5) L y1 y2 y3 y4 = some res := h
      unfold F_X1_pipesWithB_5 at h
      refine lv_iload hx hb dX1_pipesWith_5 (lv_at hl 4 rfl) ?_
      refine lv_aload_n hx hb dX1_pipesWith_7 rfl (lv_at hl 0 rfl) ?_
      refine va_get (D := D) (ci := 1) (v := .int (L 3 1)) (C := RX1) (T := TX1) (N := 5) hx hb ht i_X1 hown hK hP 0 rfl rfl 4 (by decide) (ht _ wd_35) (fun _ h9 => h9) rfl dX1_pipesWith_8 ?_
      refine lv_icmp_ge (tgt := 38) hx hb dX1_pipesWith_11 (by decide) (fun c1 => ?_) (fun c1 => ?_)
      · replace h := fp c1 h
        refine lv_iload_n hx hb dX1_pipesWith_38 rfl (lv_at hl 3 rfl) ?_
        cases h
        exact rt_i hx hb hr hlocks hS hP hK hD dX1_pipesWith_39
      · replace h := fn c1 h
        refine lv_aload_n hx hb dX1_pipesWith_14 rfl (lv_at hl 0 rfl) ?_
        refine lv_iload hx hb dX1_pipesWith_15 (lv_at hl 4 rfl) ?_
        refine lv_iload_n hx hb dX1_pipesWith_17 rfl (lv_at hl 1 rfl) ?_
        obtain ⟨u2, e3, h⟩ := b1_ok h
        refine cl_Vi (ws' := (wX1 a cI cC cO L)) ⟨hx, hb, hml, hown, ht⟩ (c_X1_partOf l D cI cC cO a L y4 y1 _ _ e3) (cwv 2 ht wd_251 wd_2 wd_278 wd_249 wd_250 (by decide +kernel) rfl rfl ⟨Nat.le_of_ble_eq_true rfl, Nat.le_of_ble_eq_true rfl⟩) 1 0 rfl rfl rfl hK hP hD hS hA hN [0, 1, 2, 3] [] [0, 1, 2, 3] (by decide) rfl rfl (by decide) (by decide) rfl (by decide) rfl hl.1 rfl (Nat.le_of_ble_eq_true rfl) dX1_pipesWith_18 ⟨Nat.le_of_ble_eq_true rfl, Nat.le_of_ble_eq_true rfl⟩ (fun H locs hP hD hS => ?_)
        refine lv_iload_n hx hb dX1_pipesWith_21 rfl (lv_at hl 2 rfl) ?_
        refine lv_icmp_ne (tgt := 32) hx hb dX1_pipesWith_22 (by decide) (fun c4 => ?_) (fun c4 => ?_)
        · replace h := fn c4 h
          refine lv_iinc (v := (y4 + 1)) (lv' := [(4, .int (y4 + 1)), (0, .ref (a 0)), (1, .int y1), (2, .int y2), (3, .int y3)]) hx hb dX1_pipesWith_32 hl (k := 4) rfl rfl (by decide) rfl (fun ls hl => ?_)
          refine lv_goto (tgt := 5) hx hb dX1_pipesWith_35 (by decide) ?_
          exact ih5 y1 y2 y3 (y4 + 1) _ _ ls h hP hD hS (lv_sub hl [1, 2, 3, 4, 0] rfl)
        · replace h := fp c4 h
          refine lv_iload_n hx hb dX1_pipesWith_25 rfl (lv_at hl 3 rfl) ?_
          refine lv_iconst (v := (1 : Int32)) hx hb dX1_pipesWith_26 (by decide) ?_
          refine lv_iload hx hb dX1_pipesWith_27 (lv_at hl 4 rfl) ?_
          refine lv_ishl hx hb dX1_pipesWith_29 ?_
          refine lv_ior hx hb dX1_pipesWith_30 ?_
          refine lv_istore_n (lv' := [(3, .int (y3 ||| ((1 : Int32) <<< (y4 &&& 31)))), (0, .ref (a 0)), (1, .int y1), (2, .int y2), (4, .int y4)]) hx hb dX1_pipesWith_31 rfl hl (by decide) rfl (fun ls hl => ?_)
          refine lv_iinc (v := (y4 + 1)) (lv' := [(4, .int (y4 + 1)), (3, .int (y3 ||| ((1 : Int32) <<< (y4 &&& 31)))), (0, .ref (a 0)), (1, .int y1), (2, .int y2)]) hx hb dX1_pipesWith_32 hl (k := 4) rfl rfl (by decide) rfl (fun ls hl => ?_)
          refine lv_goto (tgt := 5) hx hb dX1_pipesWith_35 (by decide) ?_
          exact ih5 y1 y2 (y3 ||| ((1 : Int32) <<< (y4 &&& 31))) (y4 + 1) _ _ ls h hP hD hS (lv_sub hl [2, 3, 4, 1, 0] rfl)
  unfold F_X1_pipesWith at h
  refine lv_iconst (v := (0 : Int32)) hx hb dX1_pipesWith_0 (by decide) ?_
  refine lv_istore_n (lv' := [(3, .int (0 : Int32)), (0, .ref (a 0)), (1, .int x1), (2, .int x2)]) hx hb dX1_pipesWith_1 rfl hl (by decide) rfl (fun ls hl => ?_)
  refine lv_iconst (v := (0 : Int32)) hx hb dX1_pipesWith_2 (by decide) ?_
  refine lv_istore (lv' := [(4, .int (0 : Int32)), (3, .int (0 : Int32)), (0, .ref (a 0)), (1, .int x1), (2, .int x2)]) hx hb dX1_pipesWith_3 hl (by decide) rfl (fun ls hl => ?_)
  exact w5 FU x1 x2 (0 : Int32) (0 : Int32) _ _ ls h hP hD hS (lv_sub hl [2, 3, 4, 1, 0] rfl)
theorem dX1_allUnits_0 : decode cX1_allUnits 0 = .ok (.iconst 0, 1) := by decide +kernel
theorem dX1_allUnits_1 : decode cX1_allUnits 1 = .ok (.istore_n 1, 1) := by decide +kernel
theorem dX1_allUnits_2 : decode cX1_allUnits 2 = .ok (.iconst 0, 1) := by decide +kernel
theorem dX1_allUnits_3 : decode cX1_allUnits 3 = .ok (.istore_n 2, 1) := by decide +kernel
theorem dX1_allUnits_4 : decode cX1_allUnits 4 = .ok (.iload_n 2, 1) := by decide +kernel
theorem dX1_allUnits_5 : decode cX1_allUnits 5 = .ok (.aload_n 0, 1) := by decide +kernel
theorem dX1_allUnits_6 : decode cX1_allUnits 6 = .ok (.getfield 21, 3) := by decide +kernel
theorem dX1_allUnits_9 : decode cX1_allUnits 9 = .ok (.if_icmp .ge 18, 3) := by decide +kernel
theorem dX1_allUnits_12 : decode cX1_allUnits 12 = .ok (.iload_n 1, 1) := by decide +kernel
theorem dX1_allUnits_13 : decode cX1_allUnits 13 = .ok (.aload_n 0, 1) := by decide +kernel
theorem dX1_allUnits_14 : decode cX1_allUnits 14 = .ok (.getfield 9, 3) := by decide +kernel
theorem dX1_allUnits_17 : decode cX1_allUnits 17 = .ok (.iload_n 2, 1) := by decide +kernel
theorem dX1_allUnits_18 : decode cX1_allUnits 18 = .ok (.iaload, 1) := by decide +kernel
theorem dX1_allUnits_19 : decode cX1_allUnits 19 = .ok (.iadd, 1) := by decide +kernel
theorem dX1_allUnits_20 : decode cX1_allUnits 20 = .ok (.istore_n 1, 1) := by decide +kernel
theorem dX1_allUnits_21 : decode cX1_allUnits 21 = .ok (.iinc 2 1, 3) := by decide +kernel
theorem dX1_allUnits_24 : decode cX1_allUnits 24 = .ok (.goto (-20), 3) := by decide +kernel
theorem dX1_allUnits_27 : decode cX1_allUnits 27 = .ok (.iload_n 1, 1) := by decide +kernel
theorem dX1_allUnits_28 : decode cX1_allUnits 28 = .ok (.ireturn, 1) := by decide +kernel
set_option maxHeartbeats 4000000 in
set_option maxRecDepth 100000 in
theorem c_X1_allUnits (l : Launch) (D : va_G) (cI cC cO : ClassId) (a : Nat → Nat) (L : Mm) (res : Int32) (sz : Nat) (h : F_X1_allUnits L = some res) : Met l yX1_allUnits (Cond.code yX1_allUnits cX1_allUnits 3 (Option.some Jvm.ClassFile.FieldType.int) :: lw_g) ({ frames := 0, cells := 0, slots := 0, locals := 0 } : Room) (va_Pc [.ref (a 0)] (pS D cI cC cO sz (wX1 a cI cC cO L))) (QI D cI cC cO (va_A (wX1 a cI cC cO L) sz) (wX1 a cI cC cO L) res) 0 0 (va_A (wX1 a cI cC cO L) sz) := by
  refine Met.ofW (cc := cX1_allUnits) (maxL := 3) (ret := (Option.some Jvm.ClassFile.FieldType.int)) (by decide) rfl ?_
  intro p e s m args below meth c s₁ B hml hv
  obtain ⟨rfl, rfl, hP, hK, hD0, hN⟩ := hv
  have hx := B.exec
  have hb := B.bytes
  have hr := B.returns
  have ht : ∀ w ∈ lw_g, w.before ([.ref (a 0)] : List Value).toArray s = true := fun w hw => atoms_spec (ws := Cond.code yX1_allUnits cX1_allUnits 3 (Option.some Jvm.ClassFile.FieldType.int) :: lw_g) B.pre w (List.mem_cons_of_mem _ hw)
  have hown : s.vm.findClass RX1 = some m.cls := findClass_of_methodNamed B.named
  have hlocks := B.notSynchronized
  have hD := hD0.self (sz := s.heap.size)
  generalize hAe : va_A (wX1 a cI cC cO L) s.heap.size = A at hD ⊢
  have hA : ∀ q : Nat, s.heap.size ≤ q → A q := fun q hq => by rw [← hAe]; exact Or.inr hq
  have hS : va_S A s.heap s.heap [] := va_S.rf
  have hl := lv_entry ([.ref (a 0)]) (n := 3) (Nat.le_of_ble_eq_true rfl)
  rw [lg_entry_eq]
  generalize (lg_sl ([.ref (a 0)]) ++ List.replicate (3 - (lg_sl ([.ref (a 0)])).length) Slot.unset).toArray = ls at hl ⊢
  have hl : lv_has ls 3 [(0, .ref (a 0))] := hl
  have w4 : ∀ (n4 : Nat) (y1 y2 : Int32) (H : Heap) (locs : List Loc) (ls : Array Slot), F_X1_allUnits_4 n4 L y1 y2 = some res → va_P D classes (wX1 a cI cC cO L) H → va_D A (wX1 a cI cC cO L) → va_S A s.heap H locs → lv_has ls 3 [(0, .ref (a 0)), (1, .int y1), (2, .int y2)] → W p l e ({ frames := 0, cells := 0, slots := 0, locals := 0 } : Room) s m ([.ref (a 0)] : List Value).toArray below meth c H locs 0 0 (MQ below (QI D cI cC cO A (wX1 a cI cC cO L) res) ([.ref (a 0)] : List Value).toArray s 0 0 A) (F0 m 4 ls []) := by
    intro n4
    induction n4 with
    | zero => intro y1 y2 H locs ls h hP hD hS hl; exact absurd (show (none : Option (Int32)) = some res from h) (by simp)
    | succ n4 ih4 =>
      intro y1 y2 H locs ls h hP hD hS hl
      have h : F_X1_allUnitsB_4 (F_X1_allUnits_4 n4) L y1 y2 = some res := h
      unfold F_X1_allUnitsB_4 at h
      refine lv_iload_n hx hb dX1_allUnits_4 rfl (lv_at hl 2 rfl) ?_
      refine lv_aload_n hx hb dX1_allUnits_5 rfl (lv_at hl 0 rfl) ?_
      refine va_get (D := D) (ci := 1) (v := .int (L 3 0)) (C := RX1) (T := TX1) (N := 5) hx hb ht i_X1 hown hK hP 0 rfl rfl 3 (by decide) (ht _ wd_32) (fun _ h9 => h9) rfl dX1_allUnits_6 ?_
      refine lv_icmp_ge (tgt := 27) hx hb dX1_allUnits_9 (by decide) (fun c1 => ?_) (fun c1 => ?_)
      · replace h := fp c1 h
        refine lv_iload_n hx hb dX1_allUnits_27 rfl (lv_at hl 1 rfl) ?_
        cases h
        exact rt_i hx hb hr hlocks hS hP hK hD dX1_allUnits_28
      · replace h := fn c1 h
        refine lv_iload_n hx hb dX1_allUnits_12 rfl (lv_at hl 1 rfl) ?_
        refine lv_aload_n hx hb dX1_allUnits_13 rfl (lv_at hl 0 rfl) ?_
        refine va_get (D := D) (ci := 1) (v := .ref (a 1)) (C := RX1) (T := TX1) (N := 5) hx hb ht i_X1 hown hK hP 0 rfl rfl 0 (by decide) (ht _ wd_24) (fun _ h9 => h9) rfl dX1_allUnits_14 ?_
        refine lv_iload_n hx hb dX1_allUnits_17 rfl (lv_at hl 2 rfl) ?_
        obtain ⟨i2, h⟩ := ck_ok h
        refine va_iald hx hb hK hP 1 0 rfl rfl i2 dX1_allUnits_18 ?_
        refine lv_iadd hx hb dX1_allUnits_19 ?_
        refine lv_istore_n (lv' := [(1, .int (y1 + (L 0 y2.toNatClampNeg))), (0, .ref (a 0)), (2, .int y2)]) hx hb dX1_allUnits_20 rfl hl (by decide) rfl (fun ls hl => ?_)
        refine lv_iinc (v := (y2 + 1)) (lv' := [(2, .int (y2 + 1)), (1, .int (y1 + (L 0 y2.toNatClampNeg))), (0, .ref (a 0))]) hx hb dX1_allUnits_21 hl (k := 2) rfl rfl (by decide) rfl (fun ls hl => ?_)
        refine lv_goto (tgt := 4) hx hb dX1_allUnits_24 (by decide) ?_
        exact ih4 (y1 + (L 0 y2.toNatClampNeg)) (y2 + 1) _ _ ls h hP hD hS (lv_sub hl [2, 1, 0] rfl)
  unfold F_X1_allUnits at h
  refine lv_iconst (v := (0 : Int32)) hx hb dX1_allUnits_0 (by decide) ?_
  refine lv_istore_n (lv' := [(1, .int (0 : Int32)), (0, .ref (a 0))]) hx hb dX1_allUnits_1 rfl hl (by decide) rfl (fun ls hl => ?_)
  refine lv_iconst (v := (0 : Int32)) hx hb dX1_allUnits_2 (by decide) ?_
  refine lv_istore_n (lv' := [(2, .int (0 : Int32)), (1, .int (0 : Int32)), (0, .ref (a 0))]) hx hb dX1_allUnits_3 rfl hl (by decide) rfl (fun ls hl => ?_)
  exact w4 FU (0 : Int32) (0 : Int32) _ _ ls h hP hD hS (lv_sub hl [2, 1, 0] rfl)
theorem dX1_allBounds_0 : decode cX1_allBounds 0 = .ok (.iconst 0, 1) := by decide +kernel
theorem dX1_allBounds_1 : decode cX1_allBounds 1 = .ok (.istore_n 1, 1) := by decide +kernel
theorem dX1_allBounds_2 : decode cX1_allBounds 2 = .ok (.iconst 0, 1) := by decide +kernel
theorem dX1_allBounds_3 : decode cX1_allBounds 3 = .ok (.istore_n 2, 1) := by decide +kernel
theorem dX1_allBounds_4 : decode cX1_allBounds 4 = .ok (.iload_n 2, 1) := by decide +kernel
theorem dX1_allBounds_5 : decode cX1_allBounds 5 = .ok (.aload_n 0, 1) := by decide +kernel
theorem dX1_allBounds_6 : decode cX1_allBounds 6 = .ok (.getfield 25, 3) := by decide +kernel
theorem dX1_allBounds_9 : decode cX1_allBounds 9 = .ok (.if_icmp .ge 18, 3) := by decide +kernel
theorem dX1_allBounds_12 : decode cX1_allBounds 12 = .ok (.iload_n 1, 1) := by decide +kernel
theorem dX1_allBounds_13 : decode cX1_allBounds 13 = .ok (.aload_n 0, 1) := by decide +kernel
theorem dX1_allBounds_14 : decode cX1_allBounds 14 = .ok (.iload_n 2, 1) := by decide +kernel
theorem dX1_allBounds_15 : decode cX1_allBounds 15 = .ok (.iconst 3, 1) := by decide +kernel
theorem dX1_allBounds_16 : decode cX1_allBounds 16 = .ok (.invokevirtual 55, 3) := by decide +kernel
theorem dX1_allBounds_19 : decode cX1_allBounds 19 = .ok (.iadd, 1) := by decide +kernel
theorem dX1_allBounds_20 : decode cX1_allBounds 20 = .ok (.istore_n 1, 1) := by decide +kernel
theorem dX1_allBounds_21 : decode cX1_allBounds 21 = .ok (.iinc 2 1, 3) := by decide +kernel
theorem dX1_allBounds_24 : decode cX1_allBounds 24 = .ok (.goto (-20), 3) := by decide +kernel
theorem dX1_allBounds_27 : decode cX1_allBounds 27 = .ok (.iload_n 1, 1) := by decide +kernel
theorem dX1_allBounds_28 : decode cX1_allBounds 28 = .ok (.ireturn, 1) := by decide +kernel
set_option maxHeartbeats 4000000 in
set_option maxRecDepth 100000 in
theorem c_X1_allBounds (l : Launch) (D : va_G) (cI cC cO : ClassId) (a : Nat → Nat) (L : Mm) (res : Int32) (sz : Nat) (h : F_X1_allBounds L = some res) : Met l yX1_allBounds (Cond.code yX1_allBounds cX1_allBounds 3 (Option.some Jvm.ClassFile.FieldType.int) :: lw_g) ({ frames := 1, cells := 0, slots := 0, locals := 22 } : Room) (va_Pc [.ref (a 0)] (pS D cI cC cO sz (wX1 a cI cC cO L))) (QI D cI cC cO (va_A (wX1 a cI cC cO L) sz) (wX1 a cI cC cO L) res) 0 0 (va_A (wX1 a cI cC cO L) sz) := by
  refine Met.ofW (cc := cX1_allBounds) (maxL := 3) (ret := (Option.some Jvm.ClassFile.FieldType.int)) (by decide) rfl ?_
  intro p e s m args below meth c s₁ B hml hv
  obtain ⟨rfl, rfl, hP, hK, hD0, hN⟩ := hv
  have hx := B.exec
  have hb := B.bytes
  have hr := B.returns
  have ht : ∀ w ∈ lw_g, w.before ([.ref (a 0)] : List Value).toArray s = true := fun w hw => atoms_spec (ws := Cond.code yX1_allBounds cX1_allBounds 3 (Option.some Jvm.ClassFile.FieldType.int) :: lw_g) B.pre w (List.mem_cons_of_mem _ hw)
  have hown : s.vm.findClass RX1 = some m.cls := findClass_of_methodNamed B.named
  have hlocks := B.notSynchronized
  have hD := hD0.self (sz := s.heap.size)
  generalize hAe : va_A (wX1 a cI cC cO L) s.heap.size = A at hD ⊢
  have hA : ∀ q : Nat, s.heap.size ≤ q → A q := fun q hq => by rw [← hAe]; exact Or.inr hq
  have hS : va_S A s.heap s.heap [] := va_S.rf
  have hl := lv_entry ([.ref (a 0)]) (n := 3) (Nat.le_of_ble_eq_true rfl)
  rw [lg_entry_eq]
  generalize (lg_sl ([.ref (a 0)]) ++ List.replicate (3 - (lg_sl ([.ref (a 0)])).length) Slot.unset).toArray = ls at hl ⊢
  have hl : lv_has ls 3 [(0, .ref (a 0))] := hl
  have w4 : ∀ (n4 : Nat) (y1 y2 : Int32) (H : Heap) (locs : List Loc) (ls : Array Slot), F_X1_allBounds_4 n4 L y1 y2 = some res → va_P D classes (wX1 a cI cC cO L) H → va_D A (wX1 a cI cC cO L) → va_S A s.heap H locs → lv_has ls 3 [(0, .ref (a 0)), (1, .int y1), (2, .int y2)] → W p l e ({ frames := 1, cells := 0, slots := 0, locals := 22 } : Room) s m ([.ref (a 0)] : List Value).toArray below meth c H locs 0 0 (MQ below (QI D cI cC cO A (wX1 a cI cC cO L) res) ([.ref (a 0)] : List Value).toArray s 0 0 A) (F0 m 4 ls []) := by
    intro n4
    induction n4 with
    | zero => intro y1 y2 H locs ls h hP hD hS hl; exact absurd (show (none : Option (Int32)) = some res from h) (by simp)
    | succ n4 ih4 =>
      intro y1 y2 H locs ls h hP hD hS hl
      have h : F_X1_allBoundsB_4 (F_X1_allBounds_4 n4) L y1 y2 = some res := h
      unfold F_X1_allBoundsB_4 at h
      refine lv_iload_n hx hb dX1_allBounds_4 rfl (lv_at hl 2 rfl) ?_
      refine lv_aload_n hx hb dX1_allBounds_5 rfl (lv_at hl 0 rfl) ?_
      refine va_get (D := D) (ci := 1) (v := .int (L 3 1)) (C := RX1) (T := TX1) (N := 5) hx hb ht i_X1 hown hK hP 0 rfl rfl 4 (by decide) (ht _ wd_35) (fun _ h9 => h9) rfl dX1_allBounds_6 ?_
      refine lv_icmp_ge (tgt := 27) hx hb dX1_allBounds_9 (by decide) (fun c1 => ?_) (fun c1 => ?_)
      · replace h := fp c1 h
        refine lv_iload_n hx hb dX1_allBounds_27 rfl (lv_at hl 1 rfl) ?_
        cases h
        exact rt_i hx hb hr hlocks hS hP hK hD dX1_allBounds_28
      · replace h := fn c1 h
        refine lv_iload_n hx hb dX1_allBounds_12 rfl (lv_at hl 1 rfl) ?_
        refine lv_aload_n hx hb dX1_allBounds_13 rfl (lv_at hl 0 rfl) ?_
        refine lv_iload_n hx hb dX1_allBounds_14 rfl (lv_at hl 2 rfl) ?_
        refine lv_iconst (v := (3 : Int32)) hx hb dX1_allBounds_15 (by decide) ?_
        obtain ⟨u2, e3, h⟩ := b1_ok h
        refine cl_Vi (ws' := (wX1 a cI cC cO L)) ⟨hx, hb, hml, hown, ht⟩ (c_X1_partOf l D cI cC cO a L y2 (3 : Int32) _ _ e3) (cwv 2 ht wd_251 wd_2 wd_278 wd_249 wd_250 (by decide +kernel) rfl rfl ⟨Nat.le_of_ble_eq_true rfl, Nat.le_of_ble_eq_true rfl⟩) 1 0 rfl rfl rfl hK hP hD hS hA hN [0, 1, 2, 3] [] [0, 1, 2, 3] (by decide) rfl rfl (by decide) (by decide) rfl (by decide) rfl hl.1 rfl (Nat.le_of_ble_eq_true rfl) dX1_allBounds_16 ⟨Nat.le_of_ble_eq_true rfl, Nat.le_of_ble_eq_true rfl⟩ (fun H locs hP hD hS => ?_)
        refine lv_iadd hx hb dX1_allBounds_19 ?_
        refine lv_istore_n (lv' := [(1, .int (y1 + u2)), (0, .ref (a 0)), (2, .int y2)]) hx hb dX1_allBounds_20 rfl hl (by decide) rfl (fun ls hl => ?_)
        refine lv_iinc (v := (y2 + 1)) (lv' := [(2, .int (y2 + 1)), (1, .int (y1 + u2)), (0, .ref (a 0))]) hx hb dX1_allBounds_21 hl (k := 2) rfl rfl (by decide) rfl (fun ls hl => ?_)
        refine lv_goto (tgt := 4) hx hb dX1_allBounds_24 (by decide) ?_
        exact ih4 (y1 + u2) (y2 + 1) _ _ ls h hP hD hS (lv_sub hl [2, 1, 0] rfl)
  unfold F_X1_allBounds at h
  refine lv_iconst (v := (0 : Int32)) hx hb dX1_allBounds_0 (by decide) ?_
  refine lv_istore_n (lv' := [(1, .int (0 : Int32)), (0, .ref (a 0))]) hx hb dX1_allBounds_1 rfl hl (by decide) rfl (fun ls hl => ?_)
  refine lv_iconst (v := (0 : Int32)) hx hb dX1_allBounds_2 (by decide) ?_
  refine lv_istore_n (lv' := [(2, .int (0 : Int32)), (1, .int (0 : Int32)), (0, .ref (a 0))]) hx hb dX1_allBounds_3 rfl hl (by decide) rfl (fun ls hl => ?_)
  exact w4 FU (0 : Int32) (0 : Int32) _ _ ls h hP hD hS (lv_sub hl [2, 1, 0] rfl)
theorem dX3_through_0 : decode cX3_through 0 = .ok (.iconst 2, 1) := by decide +kernel
theorem dX3_through_1 : decode cX3_through 1 = .ok (.iload_n 0, 1) := by decide +kernel
theorem dX3_through_2 : decode cX3_through 2 = .ok (.bipush 16, 2) := by decide +kernel
theorem dX3_through_4 : decode cX3_through 4 = .ok (.imul, 1) := by decide +kernel
theorem dX3_through_5 : decode cX3_through 5 = .ok (.iload_n 1, 1) := by decide +kernel
theorem dX3_through_6 : decode cX3_through 6 = .ok (.iadd, 1) := by decide +kernel
theorem dX3_through_7 : decode cX3_through 7 = .ok (.imul, 1) := by decide +kernel
theorem dX3_through_8 : decode cX3_through 8 = .ok (.ireturn, 1) := by decide +kernel
set_option maxHeartbeats 4000000 in
set_option maxRecDepth 100000 in
theorem c_X3_through (l : Launch) (D : va_G) (cI cC cO : ClassId) (x0 x1 : Int32) (res : Int32) (sz : Nat) (h : F_X3_through x0 x1 = some res) : Met l yX3_through (Cond.code yX3_through cX3_through 2 (Option.some Jvm.ClassFile.FieldType.int) :: lw_g) ({ frames := 0, cells := 0, slots := 0, locals := 0 } : Room) (va_Pc [.int x0, .int x1] (pS D cI cC cO sz ([] : va_W))) (QI D cI cC cO (va_A ([] : va_W) sz) ([] : va_W) res) 0 0 (va_A ([] : va_W) sz) := by
  refine Met.ofW (cc := cX3_through) (maxL := 2) (ret := (Option.some Jvm.ClassFile.FieldType.int)) (by decide) rfl ?_
  intro p e s m args below meth c s₁ B hml hv
  obtain ⟨rfl, rfl, hP, hK, hD0, hN⟩ := hv
  have hx := B.exec
  have hb := B.bytes
  have hr := B.returns
  have ht : ∀ w ∈ lw_g, w.before ([.int x0, .int x1] : List Value).toArray s = true := fun w hw => atoms_spec (ws := Cond.code yX3_through cX3_through 2 (Option.some Jvm.ClassFile.FieldType.int) :: lw_g) B.pre w (List.mem_cons_of_mem _ hw)
  have hown : s.vm.findClass RX3 = some m.cls := findClass_of_methodNamed B.named
  have hlocks := B.notSynchronized
  have hD := hD0.self (sz := s.heap.size)
  generalize hAe : va_A ([] : va_W) s.heap.size = A at hD ⊢
  have hA : ∀ q : Nat, s.heap.size ≤ q → A q := fun q hq => by rw [← hAe]; exact Or.inr hq
  have hS : va_S A s.heap s.heap [] := va_S.rf
  have hl := lv_entry ([.int x0, .int x1]) (n := 2) (Nat.le_of_ble_eq_true rfl)
  rw [lg_entry_eq]
  generalize (lg_sl ([.int x0, .int x1]) ++ List.replicate (2 - (lg_sl ([.int x0, .int x1])).length) Slot.unset).toArray = ls at hl ⊢
  have hl : lv_has ls 2 [(0, .int x0), (1, .int x1)] := hl
  unfold F_X3_through at h
  refine lv_iconst (v := (2 : Int32)) hx hb dX3_through_0 (by decide) ?_
  refine lv_iload_n hx hb dX3_through_1 rfl (lv_at hl 0 rfl) ?_
  refine lv_bipush (v := (16 : Int32)) hx hb dX3_through_2 (by decide) ?_
  refine lv_imul hx hb dX3_through_4 ?_
  refine lv_iload_n hx hb dX3_through_5 rfl (lv_at hl 1 rfl) ?_
  refine lv_iadd hx hb dX3_through_6 ?_
  refine lv_imul hx hb dX3_through_7 ?_
  cases h
  exact rt_i hx hb hr hlocks hS hP hK hD dX3_through_8
theorem dX3_back_0 : decode cX3_back 0 = .ok (.iload_n 0, 1) := by decide +kernel
theorem dX3_back_1 : decode cX3_back 1 = .ok (.iconst 1, 1) := by decide +kernel
theorem dX3_back_2 : decode cX3_back 2 = .ok (.ixor, 1) := by decide +kernel
theorem dX3_back_3 : decode cX3_back 3 = .ok (.ireturn, 1) := by decide +kernel
set_option maxHeartbeats 4000000 in
set_option maxRecDepth 100000 in
theorem c_X3_back (l : Launch) (D : va_G) (cI cC cO : ClassId) (x0 : Int32) (res : Int32) (sz : Nat) (h : F_X3_back x0 = some res) : Met l yX3_back (Cond.code yX3_back cX3_back 1 (Option.some Jvm.ClassFile.FieldType.int) :: lw_g) ({ frames := 0, cells := 0, slots := 0, locals := 0 } : Room) (va_Pc [.int x0] (pS D cI cC cO sz ([] : va_W))) (QI D cI cC cO (va_A ([] : va_W) sz) ([] : va_W) res) 0 0 (va_A ([] : va_W) sz) := by
  refine Met.ofW (cc := cX3_back) (maxL := 1) (ret := (Option.some Jvm.ClassFile.FieldType.int)) (by decide) rfl ?_
  intro p e s m args below meth c s₁ B hml hv
  obtain ⟨rfl, rfl, hP, hK, hD0, hN⟩ := hv
  have hx := B.exec
  have hb := B.bytes
  have hr := B.returns
  have ht : ∀ w ∈ lw_g, w.before ([.int x0] : List Value).toArray s = true := fun w hw => atoms_spec (ws := Cond.code yX3_back cX3_back 1 (Option.some Jvm.ClassFile.FieldType.int) :: lw_g) B.pre w (List.mem_cons_of_mem _ hw)
  have hown : s.vm.findClass RX3 = some m.cls := findClass_of_methodNamed B.named
  have hlocks := B.notSynchronized
  have hD := hD0.self (sz := s.heap.size)
  generalize hAe : va_A ([] : va_W) s.heap.size = A at hD ⊢
  have hA : ∀ q : Nat, s.heap.size ≤ q → A q := fun q hq => by rw [← hAe]; exact Or.inr hq
  have hS : va_S A s.heap s.heap [] := va_S.rf
  have hl := lv_entry ([.int x0]) (n := 1) (Nat.le_of_ble_eq_true rfl)
  rw [lg_entry_eq]
  generalize (lg_sl ([.int x0]) ++ List.replicate (1 - (lg_sl ([.int x0])).length) Slot.unset).toArray = ls at hl ⊢
  have hl : lv_has ls 1 [(0, .int x0)] := hl
  unfold F_X3_back at h
  refine lv_iload_n hx hb dX3_back_0 rfl (lv_at hl 0 rfl) ?_
  refine lv_iconst (v := (1 : Int32)) hx hb dX3_back_1 (by decide) ?_
  refine lv_ixor hx hb dX3_back_2 ?_
  cases h
  exact rt_i hx hb hr hlocks hS hP hK hD dX3_back_3
theorem dX3_bind_0 : decode cX3_bind 0 = .ok (.aload_n 0, 1) := by decide +kernel
theorem dX3_bind_1 : decode cX3_bind 1 = .ok (.getfield 18, 3) := by decide +kernel
theorem dX3_bind_4 : decode cX3_bind 4 = .ok (.iload_n 1, 1) := by decide +kernel
theorem dX3_bind_5 : decode cX3_bind 5 = .ok (.iload_n 2, 1) := by decide +kernel
theorem dX3_bind_6 : decode cX3_bind 6 = .ok (.iastore, 1) := by decide +kernel
theorem dX3_bind_7 : decode cX3_bind 7 = .ok (.aload_n 0, 1) := by decide +kernel
theorem dX3_bind_8 : decode cX3_bind 8 = .ok (.getfield 18, 3) := by decide +kernel
theorem dX3_bind_11 : decode cX3_bind 11 = .ok (.iload_n 1, 1) := by decide +kernel
theorem dX3_bind_12 : decode cX3_bind 12 = .ok (.invokestatic 79, 3) := by decide +kernel
theorem dX3_bind_15 : decode cX3_bind 15 = .ok (.iconst 0, 1) := by decide +kernel
theorem dX3_bind_16 : decode cX3_bind 16 = .ok (.iastore, 1) := by decide +kernel
theorem dX3_bind_17 : decode cX3_bind 17 = .ok (.return_, 1) := by decide +kernel
set_option maxHeartbeats 4000000 in
set_option maxRecDepth 100000 in
theorem c_X3_bind (l : Launch) (D : va_G) (cI cC cO : ClassId) (f : Nat → Nat) (n : Nat → Nat) (S : Mm) (N : Mm) (x1 x2 : Int32) (res : Mm) (sz : Nat) (h : F_X3_bind S N x1 x2 = some res) : Met l yX3_bind (Cond.code yX3_bind cX3_bind 3 (Option.none : Option Jvm.ClassFile.FieldType) :: lw_g) ({ frames := 1, cells := 0, slots := 0, locals := 20 } : Room) (va_Pc [.ref (f 0), .int x1, .int x2] (pS D cI cC cO sz (wX3 f n cI cC cO S N))) (QV D cI cC cO (va_A (wX3 f n cI cC cO S N) sz) (wX3 f n cI cC cO res N)) 0 0 (va_A (wX3 f n cI cC cO S N) sz) := by
  refine Met.ofW (cc := cX3_bind) (maxL := 3) (ret := (Option.none : Option Jvm.ClassFile.FieldType)) (by decide) rfl ?_
  intro p e s m args below meth c s₁ B hml hv
  obtain ⟨rfl, rfl, hP, hK, hD0, hN⟩ := hv
  have hx := B.exec
  have hb := B.bytes
  have hr := B.returns
  have ht : ∀ w ∈ lw_g, w.before ([.ref (f 0), .int x1, .int x2] : List Value).toArray s = true := fun w hw => atoms_spec (ws := Cond.code yX3_bind cX3_bind 3 (Option.none : Option Jvm.ClassFile.FieldType) :: lw_g) B.pre w (List.mem_cons_of_mem _ hw)
  have hown : s.vm.findClass RX3 = some m.cls := findClass_of_methodNamed B.named
  have hlocks := B.notSynchronized
  have hD := hD0.self (sz := s.heap.size)
  generalize hAe : va_A (wX3 f n cI cC cO S N) s.heap.size = A at hD ⊢
  have hA : ∀ q : Nat, s.heap.size ≤ q → A q := fun q hq => by rw [← hAe]; exact Or.inr hq
  have hS : va_S A s.heap s.heap [] := va_S.rf
  have hl := lv_entry ([.ref (f 0), .int x1, .int x2]) (n := 3) (Nat.le_of_ble_eq_true rfl)
  rw [lg_entry_eq]
  generalize (lg_sl ([.ref (f 0), .int x1, .int x2]) ++ List.replicate (3 - (lg_sl ([.ref (f 0), .int x1, .int x2])).length) Slot.unset).toArray = ls at hl ⊢
  have hl : lv_has ls 3 [(0, .ref (f 0)), (1, .int x1), (2, .int x2)] := hl
  unfold F_X3_bind at h
  refine lv_aload_n hx hb dX3_bind_0 rfl (lv_at hl 0 rfl) ?_
  refine va_get (D := D) (ci := 3) (v := .ref (f 1)) (C := RX3) (T := TX3) (N := 7) hx hb ht i_X3 hown hK hP 0 rfl rfl 1 (by decide) (ht _ wd_76) (fun _ h9 => h9) rfl dX3_bind_1 ?_
  refine lv_iload_n hx hb dX3_bind_4 rfl (lv_at hl 1 rfl) ?_
  refine lv_iload_n hx hb dX3_bind_5 rfl (lv_at hl 2 rfl) ?_
  obtain ⟨i1, h⟩ := ck_ok h
  refine va_iast hx hb hK hP hD hS 1 0 rfl rfl i1 dX3_bind_6 (fun H locs hP hD hS => ?_)
  obtain ⟨S2, e3, h⟩ := sv_ok h
  have hP : va_P D classes (wX3 f n cI cC cO S2 N) H := by rw [← e3]; exact hP
  have hD : va_D A (wX3 f n cI cC cO S2 N) := by rw [← e3]; exact hD
  refine lv_aload_n hx hb dX3_bind_7 rfl (lv_at hl 0 rfl) ?_
  refine va_get (D := D) (ci := 3) (v := .ref (f 1)) (C := RX3) (T := TX3) (N := 7) hx hb ht i_X3 hown hK hP 0 rfl rfl 1 (by decide) (ht _ wd_76) (fun _ h9 => h9) rfl dX3_bind_8 ?_
  refine lv_iload_n hx hb dX3_bind_11 rfl (lv_at hl 1 rfl) ?_
  obtain ⟨u4, e5, h⟩ := b1_ok h
  refine cl_Si (ws' := (wX3 f n cI cC cO S2 N)) ⟨hx, hb, hml, hown, ht⟩ (c_X3_back l D cI cC cO x1 _ _ e5) (cwst 1 ht wd_308 wd_4 wd_306 wd_307 (by decide +kernel) rfl rfl ⟨Nat.le_of_ble_eq_true rfl, Nat.le_of_ble_eq_true rfl⟩) hK hP hD hS hA hN [] [0, 1, 2, 3, 4, 5, 6, 7, 8] [0, 1, 2, 3, 4, 5, 6, 7, 8] (by decide) rfl rfl (by decide) (by decide) rfl (by decide) rfl hl.1 rfl (Nat.le_of_ble_eq_true rfl) dX3_bind_12 ⟨Nat.le_of_ble_eq_true rfl, Nat.le_of_ble_eq_true rfl⟩ (fun H locs hP hD hS => ?_)
  refine lv_iconst (v := (0 : Int32)) hx hb dX3_bind_15 (by decide) ?_
  obtain ⟨i6, h⟩ := ck_ok h
  refine va_iast hx hb hK hP hD hS 1 0 rfl rfl i6 dX3_bind_16 (fun H locs hP hD hS => ?_)
  obtain ⟨S7, e8, h⟩ := sv_ok h
  have hP : va_P D classes (wX3 f n cI cC cO S7 N) H := by rw [← e8]; exact hP
  have hD : va_D A (wX3 f n cI cC cO S7 N) := by rw [← e8]; exact hD
  cases h
  exact rt_v hx hb hr hlocks hS hP hK hD dX3_bind_17
theorem dX3_settingOut_0 : decode cX3_settingOut 0 = .ok (.sipush 512, 3) := by decide +kernel
theorem dX3_settingOut_3 : decode cX3_settingOut 3 = .ok (.iconst 2, 1) := by decide +kernel
theorem dX3_settingOut_4 : decode cX3_settingOut 4 = .ok (.iload_n 0, 1) := by decide +kernel
theorem dX3_settingOut_5 : decode cX3_settingOut 5 = .ok (.imul, 1) := by decide +kernel
theorem dX3_settingOut_6 : decode cX3_settingOut 6 = .ok (.iadd, 1) := by decide +kernel
theorem dX3_settingOut_7 : decode cX3_settingOut 7 = .ok (.ireturn, 1) := by decide +kernel
set_option maxHeartbeats 4000000 in
set_option maxRecDepth 100000 in
theorem c_X3_settingOut (l : Launch) (D : va_G) (cI cC cO : ClassId) (x0 : Int32) (res : Int32) (sz : Nat) (h : F_X3_settingOut x0 = some res) : Met l yX3_settingOut (Cond.code yX3_settingOut cX3_settingOut 1 (Option.some Jvm.ClassFile.FieldType.int) :: lw_g) ({ frames := 0, cells := 0, slots := 0, locals := 0 } : Room) (va_Pc [.int x0] (pS D cI cC cO sz ([] : va_W))) (QI D cI cC cO (va_A ([] : va_W) sz) ([] : va_W) res) 0 0 (va_A ([] : va_W) sz) := by
  refine Met.ofW (cc := cX3_settingOut) (maxL := 1) (ret := (Option.some Jvm.ClassFile.FieldType.int)) (by decide) rfl ?_
  intro p e s m args below meth c s₁ B hml hv
  obtain ⟨rfl, rfl, hP, hK, hD0, hN⟩ := hv
  have hx := B.exec
  have hb := B.bytes
  have hr := B.returns
  have ht : ∀ w ∈ lw_g, w.before ([.int x0] : List Value).toArray s = true := fun w hw => atoms_spec (ws := Cond.code yX3_settingOut cX3_settingOut 1 (Option.some Jvm.ClassFile.FieldType.int) :: lw_g) B.pre w (List.mem_cons_of_mem _ hw)
  have hown : s.vm.findClass RX3 = some m.cls := findClass_of_methodNamed B.named
  have hlocks := B.notSynchronized
  have hD := hD0.self (sz := s.heap.size)
  generalize hAe : va_A ([] : va_W) s.heap.size = A at hD ⊢
  have hA : ∀ q : Nat, s.heap.size ≤ q → A q := fun q hq => by rw [← hAe]; exact Or.inr hq
  have hS : va_S A s.heap s.heap [] := va_S.rf
  have hl := lv_entry ([.int x0]) (n := 1) (Nat.le_of_ble_eq_true rfl)
  rw [lg_entry_eq]
  generalize (lg_sl ([.int x0]) ++ List.replicate (1 - (lg_sl ([.int x0])).length) Slot.unset).toArray = ls at hl ⊢
  have hl : lv_has ls 1 [(0, .int x0)] := hl
  unfold F_X3_settingOut at h
  refine lv_sipush (v := (512 : Int32)) hx hb dX3_settingOut_0 (by decide) ?_
  refine lv_iconst (v := (2 : Int32)) hx hb dX3_settingOut_3 (by decide) ?_
  refine lv_iload_n hx hb dX3_settingOut_4 rfl (lv_at hl 0 rfl) ?_
  refine lv_imul hx hb dX3_settingOut_5 ?_
  refine lv_iadd hx hb dX3_settingOut_6 ?_
  cases h
  exact rt_i hx hb hr hlocks hS hP hK hD dX3_settingOut_7
theorem dX3_waiting_0 : decode cX3_waiting 0 = .ok (.sipush 320, 3) := by decide +kernel
theorem dX3_waiting_3 : decode cX3_waiting 3 = .ok (.iconst 2, 1) := by decide +kernel
theorem dX3_waiting_4 : decode cX3_waiting 4 = .ok (.iload_n 0, 1) := by decide +kernel
theorem dX3_waiting_5 : decode cX3_waiting 5 = .ok (.imul, 1) := by decide +kernel
theorem dX3_waiting_6 : decode cX3_waiting 6 = .ok (.iadd, 1) := by decide +kernel
theorem dX3_waiting_7 : decode cX3_waiting 7 = .ok (.ireturn, 1) := by decide +kernel
set_option maxHeartbeats 4000000 in
set_option maxRecDepth 100000 in
theorem c_X3_waiting (l : Launch) (D : va_G) (cI cC cO : ClassId) (x0 : Int32) (res : Int32) (sz : Nat) (h : F_X3_waiting x0 = some res) : Met l yX3_waiting (Cond.code yX3_waiting cX3_waiting 1 (Option.some Jvm.ClassFile.FieldType.int) :: lw_g) ({ frames := 0, cells := 0, slots := 0, locals := 0 } : Room) (va_Pc [.int x0] (pS D cI cC cO sz ([] : va_W))) (QI D cI cC cO (va_A ([] : va_W) sz) ([] : va_W) res) 0 0 (va_A ([] : va_W) sz) := by
  refine Met.ofW (cc := cX3_waiting) (maxL := 1) (ret := (Option.some Jvm.ClassFile.FieldType.int)) (by decide) rfl ?_
  intro p e s m args below meth c s₁ B hml hv
  obtain ⟨rfl, rfl, hP, hK, hD0, hN⟩ := hv
  have hx := B.exec
  have hb := B.bytes
  have hr := B.returns
  have ht : ∀ w ∈ lw_g, w.before ([.int x0] : List Value).toArray s = true := fun w hw => atoms_spec (ws := Cond.code yX3_waiting cX3_waiting 1 (Option.some Jvm.ClassFile.FieldType.int) :: lw_g) B.pre w (List.mem_cons_of_mem _ hw)
  have hown : s.vm.findClass RX3 = some m.cls := findClass_of_methodNamed B.named
  have hlocks := B.notSynchronized
  have hD := hD0.self (sz := s.heap.size)
  generalize hAe : va_A ([] : va_W) s.heap.size = A at hD ⊢
  have hA : ∀ q : Nat, s.heap.size ≤ q → A q := fun q hq => by rw [← hAe]; exact Or.inr hq
  have hS : va_S A s.heap s.heap [] := va_S.rf
  have hl := lv_entry ([.int x0]) (n := 1) (Nat.le_of_ble_eq_true rfl)
  rw [lg_entry_eq]
  generalize (lg_sl ([.int x0]) ++ List.replicate (1 - (lg_sl ([.int x0])).length) Slot.unset).toArray = ls at hl ⊢
  have hl : lv_has ls 1 [(0, .int x0)] := hl
  unfold F_X3_waiting at h
  refine lv_sipush (v := (320 : Int32)) hx hb dX3_waiting_0 (by decide) ?_
  refine lv_iconst (v := (2 : Int32)) hx hb dX3_waiting_3 (by decide) ?_
  refine lv_iload_n hx hb dX3_waiting_4 rfl (lv_at hl 0 rfl) ?_
  refine lv_imul hx hb dX3_waiting_5 ?_
  refine lv_iadd hx hb dX3_waiting_6 ?_
  cases h
  exact rt_i hx hb hr hlocks hS hP hK hD dX3_waiting_7
