theorem dX5_open_0 : decode cX5_open 0 = .ok (.aload_n 0, 1) := by decide +kernel
theorem dX5_open_1 : decode cX5_open 1 = .ok (.iload_n 1, 1) := by decide +kernel
theorem dX5_open_2 : decode cX5_open 2 = .ok (.invokevirtual 91, 3) := by decide +kernel
theorem dX5_open_5 : decode cX5_open 5 = .ok (.ifCond .eq 23, 3) := by decide +kernel
theorem dX5_open_8 : decode cX5_open 8 = .ok (.iload_n 2, 1) := by decide +kernel
theorem dX5_open_9 : decode cX5_open 9 = .ok (.iconst 0, 1) := by decide +kernel
theorem dX5_open_10 : decode cX5_open 10 = .ok (.bipush 15, 2) := by decide +kernel
theorem dX5_open_12 : decode cX5_open 12 = .ok (.invokestatic 63, 3) := by decide +kernel
theorem dX5_open_15 : decode cX5_open 15 = .ok (.ifCond .eq 13, 3) := by decide +kernel
theorem dX5_open_18 : decode cX5_open 18 = .ok (.iload_n 3, 1) := by decide +kernel
theorem dX5_open_19 : decode cX5_open 19 = .ok (.iconst 0, 1) := by decide +kernel
theorem dX5_open_20 : decode cX5_open 20 = .ok (.bipush 15, 2) := by decide +kernel
theorem dX5_open_22 : decode cX5_open 22 = .ok (.invokestatic 63, 3) := by decide +kernel
theorem dX5_open_25 : decode cX5_open 25 = .ok (.ifCond .ne 6, 3) := by decide +kernel
theorem dX5_open_28 : decode cX5_open 28 = .ok (.ldc 67, 2) := by decide +kernel
theorem dX5_open_30 : decode cX5_open 30 = .ok (.ireturn, 1) := by decide +kernel
theorem dX5_open_31 : decode cX5_open 31 = .ok (.aload_n 0, 1) := by decide +kernel
theorem dX5_open_32 : decode cX5_open 32 = .ok (.invokevirtual 72, 3) := by decide +kernel
theorem dX5_open_35 : decode cX5_open 35 = .ok (.aload_n 0, 1) := by decide +kernel
theorem dX5_open_36 : decode cX5_open 36 = .ok (.aload_n 0, 1) := by decide +kernel
theorem dX5_open_37 : decode cX5_open 37 = .ok (.iload_n 1, 1) := by decide +kernel
theorem dX5_open_38 : decode cX5_open 38 = .ok (.iload_n 2, 1) := by decide +kernel
theorem dX5_open_39 : decode cX5_open 39 = .ok (.iload_n 3, 1) := by decide +kernel
theorem dX5_open_40 : decode cX5_open 40 = .ok (.invokevirtual 94, 3) := by decide +kernel
theorem dX5_open_43 : decode cX5_open 43 = .ok (.invokevirtual 79, 3) := by decide +kernel
theorem dX5_open_46 : decode cX5_open 46 = .ok (.ireturn, 1) := by decide +kernel
set_option maxHeartbeats 4000000 in
set_option maxRecDepth 100000 in
theorem c_X5_open (l : Launch) (D : va_G) (cI cC cO : ClassId) (a : Nat → Nat) (M : Mm) (x1 x2 x3 : Int32) (res : Int32 × Mm) (sz : Nat) (h : F_X5_open M x1 x2 x3 = some res) : Met l yX5_open (Cond.code yX5_open cX5_open 4 (Option.some Jvm.ClassFile.FieldType.int) :: lw_g) ({ frames := 2, cells := 0, slots := 0, locals := 43 } : Room) (va_Pc [.ref (a 0), .int x1, .int x2, .int x3] (pS D cI cC cO sz (wX5 a cI cC cO M))) (QI D cI cC cO (va_A (wX5 a cI cC cO M) sz) (wX5 a cI cC cO res.2) res.1) 0 0 (va_A (wX5 a cI cC cO M) sz) := by
  refine Met.ofW (cc := cX5_open) (maxL := 4) (ret := (Option.some Jvm.ClassFile.FieldType.int)) (by decide) rfl ?_
  intro p e s m args below meth c s₁ B hml hv
  obtain ⟨rfl, rfl, hP, hK, hD0, hN⟩ := hv
  have hx := B.exec
  have hb := B.bytes
  have hr := B.returns
  have ht : ∀ w ∈ lw_g, w.before ([.ref (a 0), .int x1, .int x2, .int x3] : List Value).toArray s = true := fun w hw => atoms_spec (ws := Cond.code yX5_open cX5_open 4 (Option.some Jvm.ClassFile.FieldType.int) :: lw_g) B.pre w (List.mem_cons_of_mem _ hw)
  have hown : s.vm.findClass RX5 = some m.cls := findClass_of_methodNamed B.named
  have hlocks := B.notSynchronized
  have hD := hD0.self (sz := s.heap.size)
  generalize hAe : va_A (wX5 a cI cC cO M) s.heap.size = A at hD ⊢
  have hA : ∀ q : Nat, s.heap.size ≤ q → A q := fun q hq => by rw [← hAe]; exact Or.inr hq
  have hS : va_S A s.heap s.heap [] := va_S.rf
  have hl := lv_entry ([.ref (a 0), .int x1, .int x2, .int x3]) (n := 4) (Nat.le_of_ble_eq_true rfl)
  rw [lg_entry_eq]
  generalize (lg_sl ([.ref (a 0), .int x1, .int x2, .int x3]) ++ List.replicate (4 - (lg_sl ([.ref (a 0), .int x1, .int x2, .int x3])).length) Slot.unset).toArray = ls at hl ⊢
  have hl : lv_has ls 4 [(0, .ref (a 0)), (1, .int x1), (2, .int x2), (3, .int x3)] := hl
  unfold F_X5_open at h
  refine lv_aload_n hx hb dX5_open_0 rfl (lv_at hl 0 rfl) ?_
  refine lv_iload_n hx hb dX5_open_1 rfl (lv_at hl 1 rfl) ?_
  obtain ⟨u1, e2, h⟩ := b1_ok h
  refine cl_Vi (ws' := (wX5 a cI cC cO M)) ⟨hx, hb, hml, hown, ht⟩ (c_X5_isPipe l D cI cC cO a M x1 _ _ e2) (cwv 1 ht wd_646 wd_6 wd_643 wd_645 ws_25 (by decide +kernel) rfl rfl ⟨Nat.le_of_ble_eq_true rfl, Nat.le_of_ble_eq_true rfl⟩) 5 0 rfl rfl rfl hK hP hD hS hA hN [0, 1, 2, 3, 4, 5, 6, 7, 8, 9, 10, 11, 12] [] [0, 1, 2, 3, 4, 5, 6, 7, 8, 9, 10, 11, 12] (by decide) rfl rfl (by decide) (by decide) rfl (by decide) rfl hl.1 rfl (Nat.le_of_ble_eq_true rfl) dX5_open_2 ⟨Nat.le_of_ble_eq_true rfl, Nat.le_of_ble_eq_true rfl⟩ (fun H locs hP hD hS => ?_)
  refine lv_if_eq (tgt := 28) hx hb dX5_open_5 (by decide) (fun c3 => ?_) (fun c3 => ?_)
  · replace h := fp c3 h
    refine lv_ldc hx hb hown (ht _ wd_613) dX5_open_28 ?_
    cases h
    exact rt_i hx hb hr hlocks hS hP hK hD dX5_open_30
  · replace h := fn c3 h
    refine lv_iload_n hx hb dX5_open_8 rfl (lv_at hl 2 rfl) ?_
    refine lv_iconst (v := (0 : Int32)) hx hb dX5_open_9 (by decide) ?_
    refine lv_bipush (v := (15 : Int32)) hx hb dX5_open_10 (by decide) ?_
    obtain ⟨u4, e5, h⟩ := b1_ok h
    refine cl_Si (ws' := (wX5 a cI cC cO M)) ⟨hx, hb, hml, hown, ht⟩ (c_X5_in l D cI cC cO x2 (0 : Int32) (15 : Int32) _ _ e5) (cwst 3 ht wd_612 wd_6 wd_610 wd_611 (by decide +kernel) rfl rfl ⟨Nat.le_of_ble_eq_true rfl, Nat.le_of_ble_eq_true rfl⟩) hK hP hD hS hA hN [] [0, 1, 2, 3, 4, 5, 6, 7, 8, 9, 10, 11, 12] [0, 1, 2, 3, 4, 5, 6, 7, 8, 9, 10, 11, 12] (by decide) rfl rfl (by decide) (by decide) rfl (by decide) rfl hl.1 rfl (Nat.le_of_ble_eq_true rfl) dX5_open_12 ⟨Nat.le_of_ble_eq_true rfl, Nat.le_of_ble_eq_true rfl⟩ (fun H locs hP hD hS => ?_)
    refine lv_if_eq (tgt := 28) hx hb dX5_open_15 (by decide) (fun c6 => ?_) (fun c6 => ?_)
    · replace h := fp c6 h
      refine lv_ldc hx hb hown (ht _ wd_613) dX5_open_28 ?_
      cases h
      exact rt_i hx hb hr hlocks hS hP hK hD dX5_open_30
    · replace h := fn c6 h
      refine lv_iload_n hx hb dX5_open_18 rfl (lv_at hl 3 rfl) ?_
      refine lv_iconst (v := (0 : Int32)) hx hb dX5_open_19 (by decide) ?_
      refine lv_bipush (v := (15 : Int32)) hx hb dX5_open_20 (by decide) ?_
      obtain ⟨u7, e8, h⟩ := b1_ok h
      refine cl_Si (ws' := (wX5 a cI cC cO M)) ⟨hx, hb, hml, hown, ht⟩ (c_X5_in l D cI cC cO x3 (0 : Int32) (15 : Int32) _ _ e8) (cwst 3 ht wd_612 wd_6 wd_610 wd_611 (by decide +kernel) rfl rfl ⟨Nat.le_of_ble_eq_true rfl, Nat.le_of_ble_eq_true rfl⟩) hK hP hD hS hA hN [] [0, 1, 2, 3, 4, 5, 6, 7, 8, 9, 10, 11, 12] [0, 1, 2, 3, 4, 5, 6, 7, 8, 9, 10, 11, 12] (by decide) rfl rfl (by decide) (by decide) rfl (by decide) rfl hl.1 rfl (Nat.le_of_ble_eq_true rfl) dX5_open_22 ⟨Nat.le_of_ble_eq_true rfl, Nat.le_of_ble_eq_true rfl⟩ (fun H locs hP hD hS => ?_)
      refine lv_if_ne (tgt := 31) hx hb dX5_open_25 (by decide) (fun c9 => ?_) (fun c9 => ?_)
      · replace h := fn c9 h
        refine lv_aload_n hx hb dX5_open_31 rfl (lv_at hl 0 rfl) ?_
        obtain ⟨M10, e11, h⟩ := b1_ok h
        refine cl_Vv (ws' := (wX5 a cI cC cO M10)) ⟨hx, hb, hml, hown, ht⟩ (c_X5_keeps l D cI cC cO a M _ _ e11) (cwv 0 ht wd_617 wd_6 wd_614 wd_616 ws_20 (by decide +kernel) rfl rfl ⟨Nat.le_of_ble_eq_true rfl, Nat.le_of_ble_eq_true rfl⟩) 5 0 rfl rfl rfl hK hP hD hS hA hN [0, 1, 2, 3, 4, 5, 6, 7, 8, 9, 10, 11, 12] [] [0, 1, 2, 3, 4, 5, 6, 7, 8, 9, 10, 11, 12] (by decide) rfl rfl (by decide) (by decide) rfl (by decide) rfl hl.1 rfl (Nat.le_of_ble_eq_true rfl) dX5_open_32 ⟨Nat.le_of_ble_eq_true rfl, Nat.le_of_ble_eq_true rfl⟩ (fun H locs hP hD hS => ?_)
        refine lv_aload_n hx hb dX5_open_35 rfl (lv_at hl 0 rfl) ?_
        refine lv_aload_n hx hb dX5_open_36 rfl (lv_at hl 0 rfl) ?_
        refine lv_iload_n hx hb dX5_open_37 rfl (lv_at hl 1 rfl) ?_
        refine lv_iload_n hx hb dX5_open_38 rfl (lv_at hl 2 rfl) ?_
        refine lv_iload_n hx hb dX5_open_39 rfl (lv_at hl 3 rfl) ?_
        obtain ⟨u12, M13, e14, h⟩ := b2_ok h
        refine cl_Vi (ws' := (wX5 a cI cC cO M13)) ⟨hx, hb, hml, hown, ht⟩ (c_X5_opens l D cI cC cO a M10 x1 x2 x3 _ _ e14) (cwv 3 ht wd_654 wd_6 wd_651 wd_653 ws_26 (by decide +kernel) rfl rfl ⟨Nat.le_of_ble_eq_true rfl, Nat.le_of_ble_eq_true rfl⟩) 5 0 rfl rfl rfl hK hP hD hS hA hN [0, 1, 2, 3, 4, 5, 6, 7, 8, 9, 10, 11, 12] [] [0, 1, 2, 3, 4, 5, 6, 7, 8, 9, 10, 11, 12] (by decide) rfl rfl (by decide) (by decide) rfl (by decide) rfl hl.1 rfl (Nat.le_of_ble_eq_true rfl) dX5_open_40 ⟨Nat.le_of_ble_eq_true rfl, Nat.le_of_ble_eq_true rfl⟩ (fun H locs hP hD hS => ?_)
        obtain ⟨u15, M16, e17, h⟩ := b2_ok h
        refine cl_Vi (ws' := (wX5 a cI cC cO M16)) ⟨hx, hb, hml, hown, ht⟩ (c_X5_acted l D cI cC cO a M13 u12 _ _ e17) (cwv 1 ht wd_626 wd_6 wd_623 wd_625 ws_22 (by decide +kernel) rfl rfl ⟨Nat.le_of_ble_eq_true rfl, Nat.le_of_ble_eq_true rfl⟩) 5 0 rfl rfl rfl hK hP hD hS hA hN [0, 1, 2, 3, 4, 5, 6, 7, 8, 9, 10, 11, 12] [] [0, 1, 2, 3, 4, 5, 6, 7, 8, 9, 10, 11, 12] (by decide) rfl rfl (by decide) (by decide) rfl (by decide) rfl hl.1 rfl (Nat.le_of_ble_eq_true rfl) dX5_open_43 ⟨Nat.le_of_ble_eq_true rfl, Nat.le_of_ble_eq_true rfl⟩ (fun H locs hP hD hS => ?_)
        cases h
        exact rt_i hx hb hr hlocks hS hP hK hD dX5_open_46
      · replace h := fp c9 h
        refine lv_ldc hx hb hown (ht _ wd_613) dX5_open_28 ?_
        cases h
        exact rt_i hx hb hr hlocks hS hP hK hD dX5_open_30
theorem dX5_becomes_0 : decode cX5_becomes 0 = .ok (.aload_n 0, 1) := by decide +kernel
theorem dX5_becomes_1 : decode cX5_becomes 1 = .ok (.getfield 7, 3) := by decide +kernel
theorem dX5_becomes_4 : decode cX5_becomes 4 = .ok (.iload_n 1, 1) := by decide +kernel
theorem dX5_becomes_5 : decode cX5_becomes 5 = .ok (.iaload, 1) := by decide +kernel
theorem dX5_becomes_6 : decode cX5_becomes 6 = .ok (.istore_n 3, 1) := by decide +kernel
theorem dX5_becomes_7 : decode cX5_becomes 7 = .ok (.aload_n 0, 1) := by decide +kernel
theorem dX5_becomes_8 : decode cX5_becomes 8 = .ok (.getfield 7, 3) := by decide +kernel
theorem dX5_becomes_11 : decode cX5_becomes 11 = .ok (.iload_n 1, 1) := by decide +kernel
theorem dX5_becomes_12 : decode cX5_becomes 12 = .ok (.iload_n 2, 1) := by decide +kernel
theorem dX5_becomes_13 : decode cX5_becomes 13 = .ok (.iastore, 1) := by decide +kernel
theorem dX5_becomes_14 : decode cX5_becomes 14 = .ok (.iload_n 3, 1) := by decide +kernel
theorem dX5_becomes_15 : decode cX5_becomes 15 = .ok (.ireturn, 1) := by decide +kernel
set_option maxHeartbeats 4000000 in
set_option maxRecDepth 100000 in
theorem c_X5_becomes (l : Launch) (D : va_G) (cI cC cO : ClassId) (a : Nat → Nat) (M : Mm) (x1 x2 : Int32) (res : Int32 × Mm) (sz : Nat) (h : F_X5_becomes M x1 x2 = some res) : Met l yX5_becomes (Cond.code yX5_becomes cX5_becomes 4 (Option.some Jvm.ClassFile.FieldType.int) :: lw_g) ({ frames := 0, cells := 0, slots := 0, locals := 0 } : Room) (va_Pc [.ref (a 0), .int x1, .int x2] (pS D cI cC cO sz (wX5 a cI cC cO M))) (QI D cI cC cO (va_A (wX5 a cI cC cO M) sz) (wX5 a cI cC cO res.2) res.1) 0 0 (va_A (wX5 a cI cC cO M) sz) := by
  refine Met.ofW (cc := cX5_becomes) (maxL := 4) (ret := (Option.some Jvm.ClassFile.FieldType.int)) (by decide) rfl ?_
  intro p e s m args below meth c s₁ B hml hv
  obtain ⟨rfl, rfl, hP, hK, hD0, hN⟩ := hv
  have hx := B.exec
  have hb := B.bytes
  have hr := B.returns
  have ht : ∀ w ∈ lw_g, w.before ([.ref (a 0), .int x1, .int x2] : List Value).toArray s = true := fun w hw => atoms_spec (ws := Cond.code yX5_becomes cX5_becomes 4 (Option.some Jvm.ClassFile.FieldType.int) :: lw_g) B.pre w (List.mem_cons_of_mem _ hw)
  have hown : s.vm.findClass RX5 = some m.cls := findClass_of_methodNamed B.named
  have hlocks := B.notSynchronized
  have hD := hD0.self (sz := s.heap.size)
  generalize hAe : va_A (wX5 a cI cC cO M) s.heap.size = A at hD ⊢
  have hA : ∀ q : Nat, s.heap.size ≤ q → A q := fun q hq => by rw [← hAe]; exact Or.inr hq
  have hS : va_S A s.heap s.heap [] := va_S.rf
  have hl := lv_entry ([.ref (a 0), .int x1, .int x2]) (n := 4) (Nat.le_of_ble_eq_true rfl)
  rw [lg_entry_eq]
  generalize (lg_sl ([.ref (a 0), .int x1, .int x2]) ++ List.replicate (4 - (lg_sl ([.ref (a 0), .int x1, .int x2])).length) Slot.unset).toArray = ls at hl ⊢
  have hl : lv_has ls 4 [(0, .ref (a 0)), (1, .int x1), (2, .int x2)] := hl
  unfold F_X5_becomes at h
  refine lv_aload_n hx hb dX5_becomes_0 rfl (lv_at hl 0 rfl) ?_
  refine va_get (D := D) (ci := 5) (v := .ref (a 1)) (C := RX5) (T := TX5) (N := 23) hx hb ht i_X5 hown hK hP 0 rfl rfl 0 (by decide) (ht _ wd_536) (fun _ h9 => h9) rfl dX5_becomes_1 ?_
  refine lv_iload_n hx hb dX5_becomes_4 rfl (lv_at hl 1 rfl) ?_
  obtain ⟨i1, h⟩ := ck_ok h
  refine va_iald hx hb hK hP 1 0 rfl rfl i1 dX5_becomes_5 ?_
  refine lv_istore_n (lv' := [(3, .int (M 0 x1.toNatClampNeg)), (0, .ref (a 0)), (1, .int x1), (2, .int x2)]) hx hb dX5_becomes_6 rfl hl (by decide) rfl (fun ls hl => ?_)
  refine lv_aload_n hx hb dX5_becomes_7 rfl (lv_at hl 1 rfl) ?_
  refine va_get (D := D) (ci := 5) (v := .ref (a 1)) (C := RX5) (T := TX5) (N := 23) hx hb ht i_X5 hown hK hP 0 rfl rfl 0 (by decide) (ht _ wd_536) (fun _ h9 => h9) rfl dX5_becomes_8 ?_
  refine lv_iload_n hx hb dX5_becomes_11 rfl (lv_at hl 2 rfl) ?_
  refine lv_iload_n hx hb dX5_becomes_12 rfl (lv_at hl 3 rfl) ?_
  obtain ⟨i2, h⟩ := ck_ok h
  refine va_iast hx hb hK hP hD hS 1 0 rfl rfl i2 dX5_becomes_13 (fun H locs hP hD hS => ?_)
  obtain ⟨M3, e4, h⟩ := sv_ok h
  have hP : va_P D classes (wX5 a cI cC cO M3) H := by rw [← e4]; exact hP
  have hD : va_D A (wX5 a cI cC cO M3) := by rw [← e4]; exact hD
  refine lv_iload_n hx hb dX5_becomes_14 rfl (lv_at hl 0 rfl) ?_
  cases h
  exact rt_i hx hb hr hlocks hS hP hK hD dX5_becomes_15
theorem dX5_widen_0 : decode cX5_widen 0 = .ok (.aload_n 0, 1) := by decide +kernel
theorem dX5_widen_1 : decode cX5_widen 1 = .ok (.iload_n 1, 1) := by decide +kernel
theorem dX5_widen_2 : decode cX5_widen 2 = .ok (.invokevirtual 91, 3) := by decide +kernel
theorem dX5_widen_5 : decode cX5_widen 5 = .ok (.ifCond .eq 13, 3) := by decide +kernel
theorem dX5_widen_8 : decode cX5_widen 8 = .ok (.iload_n 2, 1) := by decide +kernel
theorem dX5_widen_9 : decode cX5_widen 9 = .ok (.iconst 1, 1) := by decide +kernel
theorem dX5_widen_10 : decode cX5_widen 10 = .ok (.bipush 9, 2) := by decide +kernel
theorem dX5_widen_12 : decode cX5_widen 12 = .ok (.invokestatic 63, 3) := by decide +kernel
theorem dX5_widen_15 : decode cX5_widen 15 = .ok (.ifCond .ne 6, 3) := by decide +kernel
theorem dX5_widen_18 : decode cX5_widen 18 = .ok (.ldc 67, 2) := by decide +kernel
theorem dX5_widen_20 : decode cX5_widen 20 = .ok (.ireturn, 1) := by decide +kernel
theorem dX5_widen_21 : decode cX5_widen 21 = .ok (.aload_n 0, 1) := by decide +kernel
theorem dX5_widen_22 : decode cX5_widen 22 = .ok (.invokevirtual 72, 3) := by decide +kernel
theorem dX5_widen_25 : decode cX5_widen 25 = .ok (.aload_n 0, 1) := by decide +kernel
theorem dX5_widen_26 : decode cX5_widen 26 = .ok (.aload_n 0, 1) := by decide +kernel
theorem dX5_widen_27 : decode cX5_widen 27 = .ok (.bipush 14, 2) := by decide +kernel
theorem dX5_widen_29 : decode cX5_widen 29 = .ok (.bipush 6, 2) := by decide +kernel
theorem dX5_widen_31 : decode cX5_widen 31 = .ok (.iload_n 1, 1) := by decide +kernel
theorem dX5_widen_32 : decode cX5_widen 32 = .ok (.imul, 1) := by decide +kernel
theorem dX5_widen_33 : decode cX5_widen 33 = .ok (.iadd, 1) := by decide +kernel
theorem dX5_widen_34 : decode cX5_widen 34 = .ok (.iconst 3, 1) := by decide +kernel
theorem dX5_widen_35 : decode cX5_widen 35 = .ok (.iadd, 1) := by decide +kernel
theorem dX5_widen_36 : decode cX5_widen 36 = .ok (.iload_n 2, 1) := by decide +kernel
theorem dX5_widen_37 : decode cX5_widen 37 = .ok (.invokevirtual 98, 3) := by decide +kernel
theorem dX5_widen_40 : decode cX5_widen 40 = .ok (.invokevirtual 79, 3) := by decide +kernel
theorem dX5_widen_43 : decode cX5_widen 43 = .ok (.ireturn, 1) := by decide +kernel
set_option maxHeartbeats 4000000 in
set_option maxRecDepth 100000 in
theorem c_X5_widen (l : Launch) (D : va_G) (cI cC cO : ClassId) (a : Nat → Nat) (M : Mm) (x1 x2 : Int32) (res : Int32 × Mm) (sz : Nat) (h : F_X5_widen M x1 x2 = some res) : Met l yX5_widen (Cond.code yX5_widen cX5_widen 3 (Option.some Jvm.ClassFile.FieldType.int) :: lw_g) ({ frames := 2, cells := 0, slots := 0, locals := 43 } : Room) (va_Pc [.ref (a 0), .int x1, .int x2] (pS D cI cC cO sz (wX5 a cI cC cO M))) (QI D cI cC cO (va_A (wX5 a cI cC cO M) sz) (wX5 a cI cC cO res.2) res.1) 0 0 (va_A (wX5 a cI cC cO M) sz) := by
  refine Met.ofW (cc := cX5_widen) (maxL := 3) (ret := (Option.some Jvm.ClassFile.FieldType.int)) (by decide) rfl ?_
  intro p e s m args below meth c s₁ B hml hv
  obtain ⟨rfl, rfl, hP, hK, hD0, hN⟩ := hv
  have hx := B.exec
  have hb := B.bytes
  have hr := B.returns
  have ht : ∀ w ∈ lw_g, w.before ([.ref (a 0), .int x1, .int x2] : List Value).toArray s = true := fun w hw => atoms_spec (ws := Cond.code yX5_widen cX5_widen 3 (Option.some Jvm.ClassFile.FieldType.int) :: lw_g) B.pre w (List.mem_cons_of_mem _ hw)
  have hown : s.vm.findClass RX5 = some m.cls := findClass_of_methodNamed B.named
  have hlocks := B.notSynchronized
  have hD := hD0.self (sz := s.heap.size)
  generalize hAe : va_A (wX5 a cI cC cO M) s.heap.size = A at hD ⊢
  have hA : ∀ q : Nat, s.heap.size ≤ q → A q := fun q hq => by rw [← hAe]; exact Or.inr hq
  have hS : va_S A s.heap s.heap [] := va_S.rf
  have hl := lv_entry ([.ref (a 0), .int x1, .int x2]) (n := 3) (Nat.le_of_ble_eq_true rfl)
  rw [lg_entry_eq]
  generalize (lg_sl ([.ref (a 0), .int x1, .int x2]) ++ List.replicate (3 - (lg_sl ([.ref (a 0), .int x1, .int x2])).length) Slot.unset).toArray = ls at hl ⊢
  have hl : lv_has ls 3 [(0, .ref (a 0)), (1, .int x1), (2, .int x2)] := hl
  unfold F_X5_widen at h
  refine lv_aload_n hx hb dX5_widen_0 rfl (lv_at hl 0 rfl) ?_
  refine lv_iload_n hx hb dX5_widen_1 rfl (lv_at hl 1 rfl) ?_
  obtain ⟨u1, e2, h⟩ := b1_ok h
  refine cl_Vi (ws' := (wX5 a cI cC cO M)) ⟨hx, hb, hml, hown, ht⟩ (c_X5_isPipe l D cI cC cO a M x1 _ _ e2) (cwv 1 ht wd_646 wd_6 wd_643 wd_645 ws_25 (by decide +kernel) rfl rfl ⟨Nat.le_of_ble_eq_true rfl, Nat.le_of_ble_eq_true rfl⟩) 5 0 rfl rfl rfl hK hP hD hS hA hN [0, 1, 2, 3, 4, 5, 6, 7, 8, 9, 10, 11, 12] [] [0, 1, 2, 3, 4, 5, 6, 7, 8, 9, 10, 11, 12] (by decide) rfl rfl (by decide) (by decide) rfl (by decide) rfl hl.1 rfl (Nat.le_of_ble_eq_true rfl) dX5_widen_2 ⟨Nat.le_of_ble_eq_true rfl, Nat.le_of_ble_eq_true rfl⟩ (fun H locs hP hD hS => ?_)
  refine lv_if_eq (tgt := 18) hx hb dX5_widen_5 (by decide) (fun c3 => ?_) (fun c3 => ?_)
  · replace h := fp c3 h
    refine lv_ldc hx hb hown (ht _ wd_613) dX5_widen_18 ?_
    cases h
    exact rt_i hx hb hr hlocks hS hP hK hD dX5_widen_20
  · replace h := fn c3 h
    refine lv_iload_n hx hb dX5_widen_8 rfl (lv_at hl 2 rfl) ?_
    refine lv_iconst (v := (1 : Int32)) hx hb dX5_widen_9 (by decide) ?_
    refine lv_bipush (v := (9 : Int32)) hx hb dX5_widen_10 (by decide) ?_
    obtain ⟨u4, e5, h⟩ := b1_ok h
    refine cl_Si (ws' := (wX5 a cI cC cO M)) ⟨hx, hb, hml, hown, ht⟩ (c_X5_in l D cI cC cO x2 (1 : Int32) (9 : Int32) _ _ e5) (cwst 3 ht wd_612 wd_6 wd_610 wd_611 (by decide +kernel) rfl rfl ⟨Nat.le_of_ble_eq_true rfl, Nat.le_of_ble_eq_true rfl⟩) hK hP hD hS hA hN [] [0, 1, 2, 3, 4, 5, 6, 7, 8, 9, 10, 11, 12] [0, 1, 2, 3, 4, 5, 6, 7, 8, 9, 10, 11, 12] (by decide) rfl rfl (by decide) (by decide) rfl (by decide) rfl hl.1 rfl (Nat.le_of_ble_eq_true rfl) dX5_widen_12 ⟨Nat.le_of_ble_eq_true rfl, Nat.le_of_ble_eq_true rfl⟩ (fun H locs hP hD hS => ?_)
    refine lv_if_ne (tgt := 21) hx hb dX5_widen_15 (by decide) (fun c6 => ?_) (fun c6 => ?_)
    · replace h := fn c6 h
      refine lv_aload_n hx hb dX5_widen_21 rfl (lv_at hl 0 rfl) ?_
      obtain ⟨M7, e8, h⟩ := b1_ok h
      refine cl_Vv (ws' := (wX5 a cI cC cO M7)) ⟨hx, hb, hml, hown, ht⟩ (c_X5_keeps l D cI cC cO a M _ _ e8) (cwv 0 ht wd_617 wd_6 wd_614 wd_616 ws_20 (by decide +kernel) rfl rfl ⟨Nat.le_of_ble_eq_true rfl, Nat.le_of_ble_eq_true rfl⟩) 5 0 rfl rfl rfl hK hP hD hS hA hN [0, 1, 2, 3, 4, 5, 6, 7, 8, 9, 10, 11, 12] [] [0, 1, 2, 3, 4, 5, 6, 7, 8, 9, 10, 11, 12] (by decide) rfl rfl (by decide) (by decide) rfl (by decide) rfl hl.1 rfl (Nat.le_of_ble_eq_true rfl) dX5_widen_22 ⟨Nat.le_of_ble_eq_true rfl, Nat.le_of_ble_eq_true rfl⟩ (fun H locs hP hD hS => ?_)
      refine lv_aload_n hx hb dX5_widen_25 rfl (lv_at hl 0 rfl) ?_
      refine lv_aload_n hx hb dX5_widen_26 rfl (lv_at hl 0 rfl) ?_
      refine lv_bipush (v := (14 : Int32)) hx hb dX5_widen_27 (by decide) ?_
      refine lv_bipush (v := (6 : Int32)) hx hb dX5_widen_29 (by decide) ?_
      refine lv_iload_n hx hb dX5_widen_31 rfl (lv_at hl 1 rfl) ?_
      refine lv_imul hx hb dX5_widen_32 ?_
      refine lv_iadd hx hb dX5_widen_33 ?_
      refine lv_iconst (v := (3 : Int32)) hx hb dX5_widen_34 (by decide) ?_
      refine lv_iadd hx hb dX5_widen_35 ?_
      refine lv_iload_n hx hb dX5_widen_36 rfl (lv_at hl 2 rfl) ?_
      obtain ⟨u9, M10, e11, h⟩ := b2_ok h
      refine cl_Vi (ws' := (wX5 a cI cC cO M10)) ⟨hx, hb, hml, hown, ht⟩ (c_X5_becomes l D cI cC cO a M7 (((14 : Int32) + ((6 : Int32) * x1)) + (3 : Int32)) x2 _ _ e11) (cwv 2 ht wd_662 wd_6 wd_659 wd_661 ws_27 (by decide +kernel) rfl rfl ⟨Nat.le_of_ble_eq_true rfl, Nat.le_of_ble_eq_true rfl⟩) 5 0 rfl rfl rfl hK hP hD hS hA hN [0, 1, 2, 3, 4, 5, 6, 7, 8, 9, 10, 11, 12] [] [0, 1, 2, 3, 4, 5, 6, 7, 8, 9, 10, 11, 12] (by decide) rfl rfl (by decide) (by decide) rfl (by decide) rfl hl.1 rfl (Nat.le_of_ble_eq_true rfl) dX5_widen_37 ⟨Nat.le_of_ble_eq_true rfl, Nat.le_of_ble_eq_true rfl⟩ (fun H locs hP hD hS => ?_)
      obtain ⟨u12, M13, e14, h⟩ := b2_ok h
      refine cl_Vi (ws' := (wX5 a cI cC cO M13)) ⟨hx, hb, hml, hown, ht⟩ (c_X5_acted l D cI cC cO a M10 u9 _ _ e14) (cwv 1 ht wd_626 wd_6 wd_623 wd_625 ws_22 (by decide +kernel) rfl rfl ⟨Nat.le_of_ble_eq_true rfl, Nat.le_of_ble_eq_true rfl⟩) 5 0 rfl rfl rfl hK hP hD hS hA hN [0, 1, 2, 3, 4, 5, 6, 7, 8, 9, 10, 11, 12] [] [0, 1, 2, 3, 4, 5, 6, 7, 8, 9, 10, 11, 12] (by decide) rfl rfl (by decide) (by decide) rfl (by decide) rfl hl.1 rfl (Nat.le_of_ble_eq_true rfl) dX5_widen_40 ⟨Nat.le_of_ble_eq_true rfl, Nat.le_of_ble_eq_true rfl⟩ (fun H locs hP hD hS => ?_)
      cases h
      exact rt_i hx hb hr hlocks hS hP hK hD dX5_widen_43
    · replace h := fp c6 h
      refine lv_ldc hx hb hown (ht _ wd_613) dX5_widen_18 ?_
      cases h
      exact rt_i hx hb hr hlocks hS hP hK hD dX5_widen_20
theorem dX5_units_0 : decode cX5_units 0 = .ok (.aload_n 0, 1) := by decide +kernel
theorem dX5_units_1 : decode cX5_units 1 = .ok (.iload_n 1, 1) := by decide +kernel
theorem dX5_units_2 : decode cX5_units 2 = .ok (.invokevirtual 83, 3) := by decide +kernel
theorem dX5_units_5 : decode cX5_units 5 = .ok (.ifCond .eq 13, 3) := by decide +kernel
theorem dX5_units_8 : decode cX5_units 8 = .ok (.iload_n 2, 1) := by decide +kernel
theorem dX5_units_9 : decode cX5_units 9 = .ok (.iconst 0, 1) := by decide +kernel
theorem dX5_units_10 : decode cX5_units 10 = .ok (.bipush 20, 2) := by decide +kernel
theorem dX5_units_12 : decode cX5_units 12 = .ok (.invokestatic 63, 3) := by decide +kernel
theorem dX5_units_15 : decode cX5_units 15 = .ok (.ifCond .ne 6, 3) := by decide +kernel
theorem dX5_units_18 : decode cX5_units 18 = .ok (.ldc 67, 2) := by decide +kernel
theorem dX5_units_20 : decode cX5_units 20 = .ok (.ireturn, 1) := by decide +kernel
theorem dX5_units_21 : decode cX5_units 21 = .ok (.aload_n 0, 1) := by decide +kernel
theorem dX5_units_22 : decode cX5_units 22 = .ok (.invokevirtual 72, 3) := by decide +kernel
theorem dX5_units_25 : decode cX5_units 25 = .ok (.aload_n 0, 1) := by decide +kernel
theorem dX5_units_26 : decode cX5_units 26 = .ok (.aload_n 0, 1) := by decide +kernel
theorem dX5_units_27 : decode cX5_units 27 = .ok (.iconst 2, 1) := by decide +kernel
theorem dX5_units_28 : decode cX5_units 28 = .ok (.iconst 2, 1) := by decide +kernel
theorem dX5_units_29 : decode cX5_units 29 = .ok (.iload_n 1, 1) := by decide +kernel
theorem dX5_units_30 : decode cX5_units 30 = .ok (.imul, 1) := by decide +kernel
theorem dX5_units_31 : decode cX5_units 31 = .ok (.iadd, 1) := by decide +kernel
theorem dX5_units_32 : decode cX5_units 32 = .ok (.iload_n 2, 1) := by decide +kernel
theorem dX5_units_33 : decode cX5_units 33 = .ok (.invokevirtual 98, 3) := by decide +kernel
theorem dX5_units_36 : decode cX5_units 36 = .ok (.invokevirtual 79, 3) := by decide +kernel
theorem dX5_units_39 : decode cX5_units 39 = .ok (.ireturn, 1) := by decide +kernel
set_option maxHeartbeats 4000000 in
set_option maxRecDepth 100000 in
theorem c_X5_units (l : Launch) (D : va_G) (cI cC cO : ClassId) (a : Nat → Nat) (M : Mm) (x1 x2 : Int32) (res : Int32 × Mm) (sz : Nat) (h : F_X5_units M x1 x2 = some res) : Met l yX5_units (Cond.code yX5_units cX5_units 3 (Option.some Jvm.ClassFile.FieldType.int) :: lw_g) ({ frames := 2, cells := 0, slots := 0, locals := 43 } : Room) (va_Pc [.ref (a 0), .int x1, .int x2] (pS D cI cC cO sz (wX5 a cI cC cO M))) (QI D cI cC cO (va_A (wX5 a cI cC cO M) sz) (wX5 a cI cC cO res.2) res.1) 0 0 (va_A (wX5 a cI cC cO M) sz) := by
  refine Met.ofW (cc := cX5_units) (maxL := 3) (ret := (Option.some Jvm.ClassFile.FieldType.int)) (by decide) rfl ?_
  intro p e s m args below meth c s₁ B hml hv
  obtain ⟨rfl, rfl, hP, hK, hD0, hN⟩ := hv
  have hx := B.exec
  have hb := B.bytes
  have hr := B.returns
  have ht : ∀ w ∈ lw_g, w.before ([.ref (a 0), .int x1, .int x2] : List Value).toArray s = true := fun w hw => atoms_spec (ws := Cond.code yX5_units cX5_units 3 (Option.some Jvm.ClassFile.FieldType.int) :: lw_g) B.pre w (List.mem_cons_of_mem _ hw)
  have hown : s.vm.findClass RX5 = some m.cls := findClass_of_methodNamed B.named
  have hlocks := B.notSynchronized
  have hD := hD0.self (sz := s.heap.size)
  generalize hAe : va_A (wX5 a cI cC cO M) s.heap.size = A at hD ⊢
  have hA : ∀ q : Nat, s.heap.size ≤ q → A q := fun q hq => by rw [← hAe]; exact Or.inr hq
  have hS : va_S A s.heap s.heap [] := va_S.rf
  have hl := lv_entry ([.ref (a 0), .int x1, .int x2]) (n := 3) (Nat.le_of_ble_eq_true rfl)
  rw [lg_entry_eq]
  generalize (lg_sl ([.ref (a 0), .int x1, .int x2]) ++ List.replicate (3 - (lg_sl ([.ref (a 0), .int x1, .int x2])).length) Slot.unset).toArray = ls at hl ⊢
  have hl : lv_has ls 3 [(0, .ref (a 0)), (1, .int x1), (2, .int x2)] := hl
  unfold F_X5_units at h
  refine lv_aload_n hx hb dX5_units_0 rfl (lv_at hl 0 rfl) ?_
  refine lv_iload_n hx hb dX5_units_1 rfl (lv_at hl 1 rfl) ?_
  obtain ⟨u1, e2, h⟩ := b1_ok h
  refine cl_Vi (ws' := (wX5 a cI cC cO M)) ⟨hx, hb, hml, hown, ht⟩ (c_X5_isPlace l D cI cC cO a M x1 _ _ e2) (cwv 1 ht wd_634 wd_6 wd_631 wd_633 ws_23 (by decide +kernel) rfl rfl ⟨Nat.le_of_ble_eq_true rfl, Nat.le_of_ble_eq_true rfl⟩) 5 0 rfl rfl rfl hK hP hD hS hA hN [0, 1, 2, 3, 4, 5, 6, 7, 8, 9, 10, 11, 12] [] [0, 1, 2, 3, 4, 5, 6, 7, 8, 9, 10, 11, 12] (by decide) rfl rfl (by decide) (by decide) rfl (by decide) rfl hl.1 rfl (Nat.le_of_ble_eq_true rfl) dX5_units_2 ⟨Nat.le_of_ble_eq_true rfl, Nat.le_of_ble_eq_true rfl⟩ (fun H locs hP hD hS => ?_)
  refine lv_if_eq (tgt := 18) hx hb dX5_units_5 (by decide) (fun c3 => ?_) (fun c3 => ?_)
  · replace h := fp c3 h
    refine lv_ldc hx hb hown (ht _ wd_613) dX5_units_18 ?_
    cases h
    exact rt_i hx hb hr hlocks hS hP hK hD dX5_units_20
  · replace h := fn c3 h
    refine lv_iload_n hx hb dX5_units_8 rfl (lv_at hl 2 rfl) ?_
    refine lv_iconst (v := (0 : Int32)) hx hb dX5_units_9 (by decide) ?_
    refine lv_bipush (v := (20 : Int32)) hx hb dX5_units_10 (by decide) ?_
    obtain ⟨u4, e5, h⟩ := b1_ok h
    refine cl_Si (ws' := (wX5 a cI cC cO M)) ⟨hx, hb, hml, hown, ht⟩ (c_X5_in l D cI cC cO x2 (0 : Int32) (20 : Int32) _ _ e5) (cwst 3 ht wd_612 wd_6 wd_610 wd_611 (by decide +kernel) rfl rfl ⟨Nat.le_of_ble_eq_true rfl, Nat.le_of_ble_eq_true rfl⟩) hK hP hD hS hA hN [] [0, 1, 2, 3, 4, 5, 6, 7, 8, 9, 10, 11, 12] [0, 1, 2, 3, 4, 5, 6, 7, 8, 9, 10, 11, 12] (by decide) rfl rfl (by decide) (by decide) rfl (by decide) rfl hl.1 rfl (Nat.le_of_ble_eq_true rfl) dX5_units_12 ⟨Nat.le_of_ble_eq_true rfl, Nat.le_of_ble_eq_true rfl⟩ (fun H locs hP hD hS => ?_)
    refine lv_if_ne (tgt := 21) hx hb dX5_units_15 (by decide) (fun c6 => ?_) (fun c6 => ?_)
    · replace h := fn c6 h
      refine lv_aload_n hx hb dX5_units_21 rfl (lv_at hl 0 rfl) ?_
      obtain ⟨M7, e8, h⟩ := b1_ok h
      refine cl_Vv (ws' := (wX5 a cI cC cO M7)) ⟨hx, hb, hml, hown, ht⟩ (c_X5_keeps l D cI cC cO a M _ _ e8) (cwv 0 ht wd_617 wd_6 wd_614 wd_616 ws_20 (by decide +kernel) rfl rfl ⟨Nat.le_of_ble_eq_true rfl, Nat.le_of_ble_eq_true rfl⟩) 5 0 rfl rfl rfl hK hP hD hS hA hN [0, 1, 2, 3, 4, 5, 6, 7, 8, 9, 10, 11, 12] [] [0, 1, 2, 3, 4, 5, 6, 7, 8, 9, 10, 11, 12] (by decide) rfl rfl (by decide) (by decide) rfl (by decide) rfl hl.1 rfl (Nat.le_of_ble_eq_true rfl) dX5_units_22 ⟨Nat.le_of_ble_eq_true rfl, Nat.le_of_ble_eq_true rfl⟩ (fun H locs hP hD hS => ?_)
      refine lv_aload_n hx hb dX5_units_25 rfl (lv_at hl 0 rfl) ?_
      refine lv_aload_n hx hb dX5_units_26 rfl (lv_at hl 0 rfl) ?_
      refine lv_iconst (v := (2 : Int32)) hx hb dX5_units_27 (by decide) ?_
      refine lv_iconst (v := (2 : Int32)) hx hb dX5_units_28 (by decide) ?_
      refine lv_iload_n hx hb dX5_units_29 rfl (lv_at hl 1 rfl) ?_
      refine lv_imul hx hb dX5_units_30 ?_
      refine lv_iadd hx hb dX5_units_31 ?_
      refine lv_iload_n hx hb dX5_units_32 rfl (lv_at hl 2 rfl) ?_
      obtain ⟨u9, M10, e11, h⟩ := b2_ok h
      refine cl_Vi (ws' := (wX5 a cI cC cO M10)) ⟨hx, hb, hml, hown, ht⟩ (c_X5_becomes l D cI cC cO a M7 ((2 : Int32) + ((2 : Int32) * x1)) x2 _ _ e11) (cwv 2 ht wd_662 wd_6 wd_659 wd_661 ws_27 (by decide +kernel) rfl rfl ⟨Nat.le_of_ble_eq_true rfl, Nat.le_of_ble_eq_true rfl⟩) 5 0 rfl rfl rfl hK hP hD hS hA hN [0, 1, 2, 3, 4, 5, 6, 7, 8, 9, 10, 11, 12] [] [0, 1, 2, 3, 4, 5, 6, 7, 8, 9, 10, 11, 12] (by decide) rfl rfl (by decide) (by decide) rfl (by decide) rfl hl.1 rfl (Nat.le_of_ble_eq_true rfl) dX5_units_33 ⟨Nat.le_of_ble_eq_true rfl, Nat.le_of_ble_eq_true rfl⟩ (fun H locs hP hD hS => ?_)
      obtain ⟨u12, M13, e14, h⟩ := b2_ok h
      refine cl_Vi (ws' := (wX5 a cI cC cO M13)) ⟨hx, hb, hml, hown, ht⟩ (c_X5_acted l D cI cC cO a M10 u9 _ _ e14) (cwv 1 ht wd_626 wd_6 wd_623 wd_625 ws_22 (by decide +kernel) rfl rfl ⟨Nat.le_of_ble_eq_true rfl, Nat.le_of_ble_eq_true rfl⟩) 5 0 rfl rfl rfl hK hP hD hS hA hN [0, 1, 2, 3, 4, 5, 6, 7, 8, 9, 10, 11, 12] [] [0, 1, 2, 3, 4, 5, 6, 7, 8, 9, 10, 11, 12] (by decide) rfl rfl (by decide) (by decide) rfl (by decide) rfl hl.1 rfl (Nat.le_of_ble_eq_true rfl) dX5_units_36 ⟨Nat.le_of_ble_eq_true rfl, Nat.le_of_ble_eq_true rfl⟩ (fun H locs hP hD hS => ?_)
      cases h
      exact rt_i hx hb hr hlocks hS hP hK hD dX5_units_39
    · replace h := fp c6 h
      refine lv_ldc hx hb hown (ht _ wd_613) dX5_units_18 ?_
      cases h
      exact rt_i hx hb hr hlocks hS hP hK hD dX5_units_20
theorem dX5_room_0 : decode cX5_room 0 = .ok (.aload_n 0, 1) := by decide +kernel
theorem dX5_room_1 : decode cX5_room 1 = .ok (.iload_n 1, 1) := by decide +kernel
theorem dX5_room_2 : decode cX5_room 2 = .ok (.invokevirtual 83, 3) := by decide +kernel
theorem dX5_room_5 : decode cX5_room 5 = .ok (.ifCond .eq 13, 3) := by decide +kernel
theorem dX5_room_8 : decode cX5_room 8 = .ok (.iload_n 2, 1) := by decide +kernel
theorem dX5_room_9 : decode cX5_room 9 = .ok (.iconst 0, 1) := by decide +kernel
theorem dX5_room_10 : decode cX5_room 10 = .ok (.bipush 40, 2) := by decide +kernel
theorem dX5_room_12 : decode cX5_room 12 = .ok (.invokestatic 63, 3) := by decide +kernel
theorem dX5_room_15 : decode cX5_room 15 = .ok (.ifCond .ne 6, 3) := by decide +kernel
theorem dX5_room_18 : decode cX5_room 18 = .ok (.ldc 67, 2) := by decide +kernel
theorem dX5_room_20 : decode cX5_room 20 = .ok (.ireturn, 1) := by decide +kernel
theorem dX5_room_21 : decode cX5_room 21 = .ok (.aload_n 0, 1) := by decide +kernel
theorem dX5_room_22 : decode cX5_room 22 = .ok (.invokevirtual 72, 3) := by decide +kernel
theorem dX5_room_25 : decode cX5_room 25 = .ok (.aload_n 0, 1) := by decide +kernel
theorem dX5_room_26 : decode cX5_room 26 = .ok (.aload_n 0, 1) := by decide +kernel
theorem dX5_room_27 : decode cX5_room 27 = .ok (.iconst 2, 1) := by decide +kernel
theorem dX5_room_28 : decode cX5_room 28 = .ok (.iconst 2, 1) := by decide +kernel
theorem dX5_room_29 : decode cX5_room 29 = .ok (.iload_n 1, 1) := by decide +kernel
theorem dX5_room_30 : decode cX5_room 30 = .ok (.imul, 1) := by decide +kernel
theorem dX5_room_31 : decode cX5_room 31 = .ok (.iadd, 1) := by decide +kernel
theorem dX5_room_32 : decode cX5_room 32 = .ok (.iconst 1, 1) := by decide +kernel
theorem dX5_room_33 : decode cX5_room 33 = .ok (.iadd, 1) := by decide +kernel
theorem dX5_room_34 : decode cX5_room 34 = .ok (.iload_n 2, 1) := by decide +kernel
theorem dX5_room_35 : decode cX5_room 35 = .ok (.invokevirtual 98, 3) := by decide +kernel
theorem dX5_room_38 : decode cX5_room 38 = .ok (.invokevirtual 79, 3) := by decide +kernel
theorem dX5_room_41 : decode cX5_room 41 = .ok (.ireturn, 1) := by decide +kernel
set_option maxHeartbeats 4000000 in
set_option maxRecDepth 100000 in
theorem c_X5_room (l : Launch) (D : va_G) (cI cC cO : ClassId) (a : Nat → Nat) (M : Mm) (x1 x2 : Int32) (res : Int32 × Mm) (sz : Nat) (h : F_X5_room M x1 x2 = some res) : Met l yX5_room (Cond.code yX5_room cX5_room 3 (Option.some Jvm.ClassFile.FieldType.int) :: lw_g) ({ frames := 2, cells := 0, slots := 0, locals := 43 } : Room) (va_Pc [.ref (a 0), .int x1, .int x2] (pS D cI cC cO sz (wX5 a cI cC cO M))) (QI D cI cC cO (va_A (wX5 a cI cC cO M) sz) (wX5 a cI cC cO res.2) res.1) 0 0 (va_A (wX5 a cI cC cO M) sz) := by
  refine Met.ofW (cc := cX5_room) (maxL := 3) (ret := (Option.some Jvm.ClassFile.FieldType.int)) (by decide) rfl ?_
  intro p e s m args below meth c s₁ B hml hv
  obtain ⟨rfl, rfl, hP, hK, hD0, hN⟩ := hv
  have hx := B.exec
  have hb := B.bytes
  have hr := B.returns
  have ht : ∀ w ∈ lw_g, w.before ([.ref (a 0), .int x1, .int x2] : List Value).toArray s = true := fun w hw => atoms_spec (ws := Cond.code yX5_room cX5_room 3 (Option.some Jvm.ClassFile.FieldType.int) :: lw_g) B.pre w (List.mem_cons_of_mem _ hw)
  have hown : s.vm.findClass RX5 = some m.cls := findClass_of_methodNamed B.named
  have hlocks := B.notSynchronized
  have hD := hD0.self (sz := s.heap.size)
  generalize hAe : va_A (wX5 a cI cC cO M) s.heap.size = A at hD ⊢
  have hA : ∀ q : Nat, s.heap.size ≤ q → A q := fun q hq => by rw [← hAe]; exact Or.inr hq
  have hS : va_S A s.heap s.heap [] := va_S.rf
  have hl := lv_entry ([.ref (a 0), .int x1, .int x2]) (n := 3) (Nat.le_of_ble_eq_true rfl)
  rw [lg_entry_eq]
  generalize (lg_sl ([.ref (a 0), .int x1, .int x2]) ++ List.replicate (3 - (lg_sl ([.ref (a 0), .int x1, .int x2])).length) Slot.unset).toArray = ls at hl ⊢
  have hl : lv_has ls 3 [(0, .ref (a 0)), (1, .int x1), (2, .int x2)] := hl
  unfold F_X5_room at h
  refine lv_aload_n hx hb dX5_room_0 rfl (lv_at hl 0 rfl) ?_
  refine lv_iload_n hx hb dX5_room_1 rfl (lv_at hl 1 rfl) ?_
  obtain ⟨u1, e2, h⟩ := b1_ok h
  refine cl_Vi (ws' := (wX5 a cI cC cO M)) ⟨hx, hb, hml, hown, ht⟩ (c_X5_isPlace l D cI cC cO a M x1 _ _ e2) (cwv 1 ht wd_634 wd_6 wd_631 wd_633 ws_23 (by decide +kernel) rfl rfl ⟨Nat.le_of_ble_eq_true rfl, Nat.le_of_ble_eq_true rfl⟩) 5 0 rfl rfl rfl hK hP hD hS hA hN [0, 1, 2, 3, 4, 5, 6, 7, 8, 9, 10, 11, 12] [] [0, 1, 2, 3, 4, 5, 6, 7, 8, 9, 10, 11, 12] (by decide) rfl rfl (by decide) (by decide) rfl (by decide) rfl hl.1 rfl (Nat.le_of_ble_eq_true rfl) dX5_room_2 ⟨Nat.le_of_ble_eq_true rfl, Nat.le_of_ble_eq_true rfl⟩ (fun H locs hP hD hS => ?_)
  refine lv_if_eq (tgt := 18) hx hb dX5_room_5 (by decide) (fun c3 => ?_) (fun c3 => ?_)
  · replace h := fp c3 h
    refine lv_ldc hx hb hown (ht _ wd_613) dX5_room_18 ?_
    cases h
    exact rt_i hx hb hr hlocks hS hP hK hD dX5_room_20
  · replace h := fn c3 h
    refine lv_iload_n hx hb dX5_room_8 rfl (lv_at hl 2 rfl) ?_
    refine lv_iconst (v := (0 : Int32)) hx hb dX5_room_9 (by decide) ?_
    refine lv_bipush (v := (40 : Int32)) hx hb dX5_room_10 (by decide) ?_
    obtain ⟨u4, e5, h⟩ := b1_ok h
    refine cl_Si (ws' := (wX5 a cI cC cO M)) ⟨hx, hb, hml, hown, ht⟩ (c_X5_in l D cI cC cO x2 (0 : Int32) (40 : Int32) _ _ e5) (cwst 3 ht wd_612 wd_6 wd_610 wd_611 (by decide +kernel) rfl rfl ⟨Nat.le_of_ble_eq_true rfl, Nat.le_of_ble_eq_true rfl⟩) hK hP hD hS hA hN [] [0, 1, 2, 3, 4, 5, 6, 7, 8, 9, 10, 11, 12] [0, 1, 2, 3, 4, 5, 6, 7, 8, 9, 10, 11, 12] (by decide) rfl rfl (by decide) (by decide) rfl (by decide) rfl hl.1 rfl (Nat.le_of_ble_eq_true rfl) dX5_room_12 ⟨Nat.le_of_ble_eq_true rfl, Nat.le_of_ble_eq_true rfl⟩ (fun H locs hP hD hS => ?_)
    refine lv_if_ne (tgt := 21) hx hb dX5_room_15 (by decide) (fun c6 => ?_) (fun c6 => ?_)
    · replace h := fn c6 h
      refine lv_aload_n hx hb dX5_room_21 rfl (lv_at hl 0 rfl) ?_
      obtain ⟨M7, e8, h⟩ := b1_ok h
      refine cl_Vv (ws' := (wX5 a cI cC cO M7)) ⟨hx, hb, hml, hown, ht⟩ (c_X5_keeps l D cI cC cO a M _ _ e8) (cwv 0 ht wd_617 wd_6 wd_614 wd_616 ws_20 (by decide +kernel) rfl rfl ⟨Nat.le_of_ble_eq_true rfl, Nat.le_of_ble_eq_true rfl⟩) 5 0 rfl rfl rfl hK hP hD hS hA hN [0, 1, 2, 3, 4, 5, 6, 7, 8, 9, 10, 11, 12] [] [0, 1, 2, 3, 4, 5, 6, 7, 8, 9, 10, 11, 12] (by decide) rfl rfl (by decide) (by decide) rfl (by decide) rfl hl.1 rfl (Nat.le_of_ble_eq_true rfl) dX5_room_22 ⟨Nat.le_of_ble_eq_true rfl, Nat.le_of_ble_eq_true rfl⟩ (fun H locs hP hD hS => ?_)
      refine lv_aload_n hx hb dX5_room_25 rfl (lv_at hl 0 rfl) ?_
      refine lv_aload_n hx hb dX5_room_26 rfl (lv_at hl 0 rfl) ?_
      refine lv_iconst (v := (2 : Int32)) hx hb dX5_room_27 (by decide) ?_
      refine lv_iconst (v := (2 : Int32)) hx hb dX5_room_28 (by decide) ?_
      refine lv_iload_n hx hb dX5_room_29 rfl (lv_at hl 1 rfl) ?_
      refine lv_imul hx hb dX5_room_30 ?_
      refine lv_iadd hx hb dX5_room_31 ?_
      refine lv_iconst (v := (1 : Int32)) hx hb dX5_room_32 (by decide) ?_
      refine lv_iadd hx hb dX5_room_33 ?_
      refine lv_iload_n hx hb dX5_room_34 rfl (lv_at hl 2 rfl) ?_
      obtain ⟨u9, M10, e11, h⟩ := b2_ok h
      refine cl_Vi (ws' := (wX5 a cI cC cO M10)) ⟨hx, hb, hml, hown, ht⟩ (c_X5_becomes l D cI cC cO a M7 (((2 : Int32) + ((2 : Int32) * x1)) + (1 : Int32)) x2 _ _ e11) (cwv 2 ht wd_662 wd_6 wd_659 wd_661 ws_27 (by decide +kernel) rfl rfl ⟨Nat.le_of_ble_eq_true rfl, Nat.le_of_ble_eq_true rfl⟩) 5 0 rfl rfl rfl hK hP hD hS hA hN [0, 1, 2, 3, 4, 5, 6, 7, 8, 9, 10, 11, 12] [] [0, 1, 2, 3, 4, 5, 6, 7, 8, 9, 10, 11, 12] (by decide) rfl rfl (by decide) (by decide) rfl (by decide) rfl hl.1 rfl (Nat.le_of_ble_eq_true rfl) dX5_room_35 ⟨Nat.le_of_ble_eq_true rfl, Nat.le_of_ble_eq_true rfl⟩ (fun H locs hP hD hS => ?_)
      obtain ⟨u12, M13, e14, h⟩ := b2_ok h
      refine cl_Vi (ws' := (wX5 a cI cC cO M13)) ⟨hx, hb, hml, hown, ht⟩ (c_X5_acted l D cI cC cO a M10 u9 _ _ e14) (cwv 1 ht wd_626 wd_6 wd_623 wd_625 ws_22 (by decide +kernel) rfl rfl ⟨Nat.le_of_ble_eq_true rfl, Nat.le_of_ble_eq_true rfl⟩) 5 0 rfl rfl rfl hK hP hD hS hA hN [0, 1, 2, 3, 4, 5, 6, 7, 8, 9, 10, 11, 12] [] [0, 1, 2, 3, 4, 5, 6, 7, 8, 9, 10, 11, 12] (by decide) rfl rfl (by decide) (by decide) rfl (by decide) rfl hl.1 rfl (Nat.le_of_ble_eq_true rfl) dX5_room_38 ⟨Nat.le_of_ble_eq_true rfl, Nat.le_of_ble_eq_true rfl⟩ (fun H locs hP hD hS => ?_)
      cases h
      exact rt_i hx hb hr hlocks hS hP hK hD dX5_room_41
    · replace h := fp c6 h
      refine lv_ldc hx hb hown (ht _ wd_613) dX5_room_18 ?_
      cases h
      exact rt_i hx hb hr hlocks hS hP hK hD dX5_room_20
theorem dX5_pipeOf_0 : decode cX5_pipeOf 0 = .ok (.aload_n 0, 1) := by decide +kernel
theorem dX5_pipeOf_1 : decode cX5_pipeOf 1 = .ok (.iload_n 1, 1) := by decide +kernel
theorem dX5_pipeOf_2 : decode cX5_pipeOf 2 = .ok (.invokevirtual 91, 3) := by decide +kernel
theorem dX5_pipeOf_5 : decode cX5_pipeOf 5 = .ok (.ifCond .eq 21, 3) := by decide +kernel
theorem dX5_pipeOf_8 : decode cX5_pipeOf 8 = .ok (.iload_n 2, 1) := by decide +kernel
theorem dX5_pipeOf_9 : decode cX5_pipeOf 9 = .ok (.iconst 0, 1) := by decide +kernel
theorem dX5_pipeOf_10 : decode cX5_pipeOf 10 = .ok (.iconst 5, 1) := by decide +kernel
theorem dX5_pipeOf_11 : decode cX5_pipeOf 11 = .ok (.invokestatic 63, 3) := by decide +kernel
theorem dX5_pipeOf_14 : decode cX5_pipeOf 14 = .ok (.ifCond .eq 12, 3) := by decide +kernel
theorem dX5_pipeOf_17 : decode cX5_pipeOf 17 = .ok (.aload_n 0, 1) := by decide +kernel
theorem dX5_pipeOf_18 : decode cX5_pipeOf 18 = .ok (.iload_n 1, 1) := by decide +kernel
theorem dX5_pipeOf_19 : decode cX5_pipeOf 19 = .ok (.iload_n 2, 1) := by decide +kernel
theorem dX5_pipeOf_20 : decode cX5_pipeOf 20 = .ok (.invokevirtual 101, 3) := by decide +kernel
theorem dX5_pipeOf_23 : decode cX5_pipeOf 23 = .ok (.goto 5, 3) := by decide +kernel
theorem dX5_pipeOf_26 : decode cX5_pipeOf 26 = .ok (.ldc 67, 2) := by decide +kernel
theorem dX5_pipeOf_28 : decode cX5_pipeOf 28 = .ok (.ireturn, 1) := by decide +kernel
set_option maxHeartbeats 4000000 in
set_option maxRecDepth 100000 in
theorem c_X5_pipeOf (l : Launch) (D : va_G) (cI cC cO : ClassId) (a : Nat → Nat) (M : Mm) (x1 x2 : Int32) (res : Int32) (sz : Nat) (h : F_X5_pipeOf M x1 x2 = some res) : Met l yX5_pipeOf (Cond.code yX5_pipeOf cX5_pipeOf 3 (Option.some Jvm.ClassFile.FieldType.int) :: lw_g) ({ frames := 2, cells := 0, slots := 0, locals := 43 } : Room) (va_Pc [.ref (a 0), .int x1, .int x2] (pS D cI cC cO sz (wX5 a cI cC cO M))) (QI D cI cC cO (va_A (wX5 a cI cC cO M) sz) (wX5 a cI cC cO M) res) 0 0 (va_A (wX5 a cI cC cO M) sz) := by
  refine Met.ofW (cc := cX5_pipeOf) (maxL := 3) (ret := (Option.some Jvm.ClassFile.FieldType.int)) (by decide) rfl ?_
  intro p e s m args below meth c s₁ B hml hv
  obtain ⟨rfl, rfl, hP, hK, hD0, hN⟩ := hv
  have hx := B.exec
  have hb := B.bytes
  have hr := B.returns
  have ht : ∀ w ∈ lw_g, w.before ([.ref (a 0), .int x1, .int x2] : List Value).toArray s = true := fun w hw => atoms_spec (ws := Cond.code yX5_pipeOf cX5_pipeOf 3 (Option.some Jvm.ClassFile.FieldType.int) :: lw_g) B.pre w (List.mem_cons_of_mem _ hw)
  have hown : s.vm.findClass RX5 = some m.cls := findClass_of_methodNamed B.named
  have hlocks := B.notSynchronized
  have hD := hD0.self (sz := s.heap.size)
  generalize hAe : va_A (wX5 a cI cC cO M) s.heap.size = A at hD ⊢
  have hA : ∀ q : Nat, s.heap.size ≤ q → A q := fun q hq => by rw [← hAe]; exact Or.inr hq
  have hS : va_S A s.heap s.heap [] := va_S.rf
  have hl := lv_entry ([.ref (a 0), .int x1, .int x2]) (n := 3) (Nat.le_of_ble_eq_true rfl)
  rw [lg_entry_eq]
  generalize (lg_sl ([.ref (a 0), .int x1, .int x2]) ++ List.replicate (3 - (lg_sl ([.ref (a 0), .int x1, .int x2])).length) Slot.unset).toArray = ls at hl ⊢
  have hl : lv_has ls 3 [(0, .ref (a 0)), (1, .int x1), (2, .int x2)] := hl
  unfold F_X5_pipeOf at h
  refine lv_aload_n hx hb dX5_pipeOf_0 rfl (lv_at hl 0 rfl) ?_
  refine lv_iload_n hx hb dX5_pipeOf_1 rfl (lv_at hl 1 rfl) ?_
  obtain ⟨u1, e2, h⟩ := b1_ok h
  refine cl_Vi (ws' := (wX5 a cI cC cO M)) ⟨hx, hb, hml, hown, ht⟩ (c_X5_isPipe l D cI cC cO a M x1 _ _ e2) (cwv 1 ht wd_646 wd_6 wd_643 wd_645 ws_25 (by decide +kernel) rfl rfl ⟨Nat.le_of_ble_eq_true rfl, Nat.le_of_ble_eq_true rfl⟩) 5 0 rfl rfl rfl hK hP hD hS hA hN [0, 1, 2, 3, 4, 5, 6, 7, 8, 9, 10, 11, 12] [] [0, 1, 2, 3, 4, 5, 6, 7, 8, 9, 10, 11, 12] (by decide) rfl rfl (by decide) (by decide) rfl (by decide) rfl hl.1 rfl (Nat.le_of_ble_eq_true rfl) dX5_pipeOf_2 ⟨Nat.le_of_ble_eq_true rfl, Nat.le_of_ble_eq_true rfl⟩ (fun H locs hP hD hS => ?_)
  refine lv_if_eq (tgt := 26) hx hb dX5_pipeOf_5 (by decide) (fun c3 => ?_) (fun c3 => ?_)
  · replace h := fp c3 h
    refine lv_ldc hx hb hown (ht _ wd_613) dX5_pipeOf_26 ?_
    cases h
    exact rt_i hx hb hr hlocks hS hP hK hD dX5_pipeOf_28
  · replace h := fn c3 h
    refine lv_iload_n hx hb dX5_pipeOf_8 rfl (lv_at hl 2 rfl) ?_
    refine lv_iconst (v := (0 : Int32)) hx hb dX5_pipeOf_9 (by decide) ?_
    refine lv_iconst (v := (5 : Int32)) hx hb dX5_pipeOf_10 (by decide) ?_
    obtain ⟨u4, e5, h⟩ := b1_ok h
    refine cl_Si (ws' := (wX5 a cI cC cO M)) ⟨hx, hb, hml, hown, ht⟩ (c_X5_in l D cI cC cO x2 (0 : Int32) (5 : Int32) _ _ e5) (cwst 3 ht wd_612 wd_6 wd_610 wd_611 (by decide +kernel) rfl rfl ⟨Nat.le_of_ble_eq_true rfl, Nat.le_of_ble_eq_true rfl⟩) hK hP hD hS hA hN [] [0, 1, 2, 3, 4, 5, 6, 7, 8, 9, 10, 11, 12] [0, 1, 2, 3, 4, 5, 6, 7, 8, 9, 10, 11, 12] (by decide) rfl rfl (by decide) (by decide) rfl (by decide) rfl hl.1 rfl (Nat.le_of_ble_eq_true rfl) dX5_pipeOf_11 ⟨Nat.le_of_ble_eq_true rfl, Nat.le_of_ble_eq_true rfl⟩ (fun H locs hP hD hS => ?_)
    refine lv_if_eq (tgt := 26) hx hb dX5_pipeOf_14 (by decide) (fun c6 => ?_) (fun c6 => ?_)
    · replace h := fp c6 h
      refine lv_ldc hx hb hown (ht _ wd_613) dX5_pipeOf_26 ?_
      cases h
      exact rt_i hx hb hr hlocks hS hP hK hD dX5_pipeOf_28
    · replace h := fn c6 h
      refine lv_aload_n hx hb dX5_pipeOf_17 rfl (lv_at hl 0 rfl) ?_
      refine lv_iload_n hx hb dX5_pipeOf_18 rfl (lv_at hl 1 rfl) ?_
      refine lv_iload_n hx hb dX5_pipeOf_19 rfl (lv_at hl 2 rfl) ?_
      obtain ⟨u7, e8, h⟩ := b1_ok h
      refine cl_Vi (ws' := (wX5 a cI cC cO M)) ⟨hx, hb, hml, hown, ht⟩ (c_X5_pi l D cI cC cO a M x1 x2 _ _ e8) (cwv 2 ht wd_678 wd_6 wd_675 wd_677 ws_28 (by decide +kernel) rfl rfl ⟨Nat.le_of_ble_eq_true rfl, Nat.le_of_ble_eq_true rfl⟩) 5 0 rfl rfl rfl hK hP hD hS hA hN [0, 1, 2, 3, 4, 5, 6, 7, 8, 9, 10, 11, 12] [] [0, 1, 2, 3, 4, 5, 6, 7, 8, 9, 10, 11, 12] (by decide) rfl rfl (by decide) (by decide) rfl (by decide) rfl hl.1 rfl (Nat.le_of_ble_eq_true rfl) dX5_pipeOf_20 ⟨Nat.le_of_ble_eq_true rfl, Nat.le_of_ble_eq_true rfl⟩ (fun H locs hP hD hS => ?_)
      refine lv_goto (tgt := 28) hx hb dX5_pipeOf_23 (by decide) ?_
      cases h
      exact rt_i hx hb hr hlocks hS hP hK hD dX5_pipeOf_28
theorem dX5_pipesOf_0 : decode cX5_pipesOf 0 = .ok (.iconst 0, 1) := by decide +kernel
theorem dX5_pipesOf_1 : decode cX5_pipesOf 1 = .ok (.istore_n 3, 1) := by decide +kernel
theorem dX5_pipesOf_2 : decode cX5_pipesOf 2 = .ok (.iconst 0, 1) := by decide +kernel
theorem dX5_pipesOf_3 : decode cX5_pipesOf 3 = .ok (.istore 4, 2) := by decide +kernel
theorem dX5_pipesOf_5 : decode cX5_pipesOf 5 = .ok (.iload 4, 2) := by decide +kernel
theorem dX5_pipesOf_7 : decode cX5_pipesOf 7 = .ok (.aload_n 0, 1) := by decide +kernel
theorem dX5_pipesOf_8 : decode cX5_pipesOf 8 = .ok (.getfield 7, 3) := by decide +kernel
theorem dX5_pipesOf_11 : decode cX5_pipesOf 11 = .ok (.iconst 1, 1) := by decide +kernel
theorem dX5_pipesOf_12 : decode cX5_pipesOf 12 = .ok (.iaload, 1) := by decide +kernel
theorem dX5_pipesOf_13 : decode cX5_pipesOf 13 = .ok (.if_icmp .ge 31, 3) := by decide +kernel
theorem dX5_pipesOf_16 : decode cX5_pipesOf 16 = .ok (.iload_n 3, 1) := by decide +kernel
theorem dX5_pipesOf_17 : decode cX5_pipesOf 17 = .ok (.aload_n 0, 1) := by decide +kernel
theorem dX5_pipesOf_18 : decode cX5_pipesOf 18 = .ok (.iload 4, 2) := by decide +kernel
theorem dX5_pipesOf_20 : decode cX5_pipesOf 20 = .ok (.iload_n 2, 1) := by decide +kernel
theorem dX5_pipesOf_21 : decode cX5_pipesOf 21 = .ok (.invokevirtual 101, 3) := by decide +kernel
theorem dX5_pipesOf_24 : decode cX5_pipesOf 24 = .ok (.iload_n 1, 1) := by decide +kernel
theorem dX5_pipesOf_25 : decode cX5_pipesOf 25 = .ok (.if_icmp .ne 10, 3) := by decide +kernel
theorem dX5_pipesOf_28 : decode cX5_pipesOf 28 = .ok (.iconst 1, 1) := by decide +kernel
theorem dX5_pipesOf_29 : decode cX5_pipesOf 29 = .ok (.iload 4, 2) := by decide +kernel
theorem dX5_pipesOf_31 : decode cX5_pipesOf 31 = .ok (.ishl, 1) := by decide +kernel
theorem dX5_pipesOf_32 : decode cX5_pipesOf 32 = .ok (.goto 4, 3) := by decide +kernel
theorem dX5_pipesOf_35 : decode cX5_pipesOf 35 = .ok (.iconst 0, 1) := by decide +kernel
theorem dX5_pipesOf_36 : decode cX5_pipesOf 36 = .ok (.ior, 1) := by decide +kernel
theorem dX5_pipesOf_37 : decode cX5_pipesOf 37 = .ok (.istore_n 3, 1) := by decide +kernel
theorem dX5_pipesOf_38 : decode cX5_pipesOf 38 = .ok (.iinc 4 1, 3) := by decide +kernel
theorem dX5_pipesOf_41 : decode cX5_pipesOf 41 = .ok (.goto (-36), 3) := by decide +kernel
theorem dX5_pipesOf_44 : decode cX5_pipesOf 44 = .ok (.iload_n 3, 1) := by decide +kernel
theorem dX5_pipesOf_45 : decode cX5_pipesOf 45 = .ok (.ireturn, 1) := by decide +kernel
set_option maxHeartbeats 4000000 in
set_option maxRecDepth 100000 in
theorem c_X5_pipesOf (l : Launch) (D : va_G) (cI cC cO : ClassId) (a : Nat → Nat) (M : Mm) (x1 x2 : Int32) (res : Int32) (sz : Nat) (h : F_X5_pipesOf M x1 x2 = some res) : Met l yX5_pipesOf (Cond.code yX5_pipesOf cX5_pipesOf 5 (Option.some Jvm.ClassFile.FieldType.int) :: lw_g) ({ frames := 1, cells := 0, slots := 0, locals := 22 } : Room) (va_Pc [.ref (a 0), .int x1, .int x2] (pS D cI cC cO sz (wX5 a cI cC cO M))) (QI D cI cC cO (va_A (wX5 a cI cC cO M) sz) (wX5 a cI cC cO M) res) 0 0 (va_A (wX5 a cI cC cO M) sz) := by
  refine Met.ofW (cc := cX5_pipesOf) (maxL := 5) (ret := (Option.some Jvm.ClassFile.FieldType.int)) (by decide) rfl ?_
  intro p e s m args below meth c s₁ B hml hv
  obtain ⟨rfl, rfl, hP, hK, hD0, hN⟩ := hv
  have hx := B.exec
  have hb := B.bytes
  have hr := B.returns
  have ht : ∀ w ∈ lw_g, w.before ([.ref (a 0), .int x1, .int x2] : List Value).toArray s = true := fun w hw => atoms_spec (ws := Cond.code yX5_pipesOf cX5_pipesOf 5 (Option.some Jvm.ClassFile.FieldType.int) :: lw_g) B.pre w (List.mem_cons_of_mem _ hw)
  have hown : s.vm.findClass RX5 = some m.cls := findClass_of_methodNamed B.named
  have hlocks := B.notSynchronized
  have hD := hD0.self (sz := s.heap.size)
  generalize hAe : va_A (wX5 a cI cC cO M) s.heap.size = A at hD ⊢
  have hA : ∀ q : Nat, s.heap.size ≤ q → A q := fun q hq => by rw [← hAe]; exact Or.inr hq
  have hS : va_S A s.heap s.heap [] := va_S.rf
  have hl := lv_entry ([.ref (a 0), .int x1, .int x2]) (n := 5) (Nat.le_of_ble_eq_true rfl)
  rw [lg_entry_eq]
  generalize (lg_sl ([.ref (a 0), .int x1, .int x2]) ++ List.replicate (5 - (lg_sl ([.ref (a 0), .int x1, .int x2])).length) Slot.unset).toArray = ls at hl ⊢
  have hl : lv_has ls 5 [(0, .ref (a 0)), (1, .int x1), (2, .int x2)] := hl
  have w5 : ∀ (n5 : Nat) (y1 y2 y3 y4 : Int32) (H : Heap) (locs : List Loc) (ls : Array Slot), F_X5_pipesOf_5 n5 M y1 y2 y3 y4 = some res → va_P D classes (wX5 a cI cC cO M) H → va_D A (wX5 a cI cC cO M) → va_S A s.heap H locs → lv_has ls 5 [(0, .ref (a 0)), (1, .int y1), (2, .int y2), (3, .int y3), (4, .int y4)] → W p l e ({ frames := 1, cells := 0, slots := 0, locals := 22 } : Room) s m ([.ref (a 0), .int x1, .int x2] : List Value).toArray below meth c H locs 0 0 (MQ below (QI D cI cC cO A (wX5 a cI cC cO M) res) ([.ref (a 0), .int x1, .int x2] : List Value).toArray s 0 0 A) (F0 m 5 ls []) := by
    intro n5
    induction n5 with
    | zero => intro y1 y2 y3 y4 H locs ls h hP hD hS hl; exact absurd (show (none : Option (Int32)) = some res from h) (by simp)
    | succ n5 ih5 =>
      intro y1 y2 y3 y4 H locs ls h hP hD hS hl
      have h : F_X5_pipesOfB_5 (F_X5_pipesOf_5 n5) M y1 y2 y3 y4 = some res := h
      unfold F_X5_pipesOfB_5 at h
      refine lv_iload hx hb dX5_pipesOf_5 (lv_at hl 4 rfl) ?_
      refine lv_aload_n hx hb dX5_pipesOf_7 rfl (lv_at hl 0 rfl) ?_
      refine va_get (D := D) (ci := 5) (v := .ref (a 1)) (C := RX5) (T := TX5) (N := 23) hx hb ht i_X5 hown hK hP 0 rfl rfl 0 (by decide) (ht _ wd_536) (fun _ h9 => h9) rfl dX5_pipesOf_8 ?_
      refine lv_iconst (v := (1 : Int32)) hx hb dX5_pipesOf_11 (by decide) ?_
      obtain ⟨i1, h⟩ := ck_ok h
      refine va_iald hx hb hK hP 1 0 rfl rfl i1 dX5_pipesOf_12 ?_
      refine lv_icmp_ge (tgt := 44) hx hb dX5_pipesOf_13 (by decide) (fun c2 => ?_) (fun c2 => ?_)
      · replace h := fp c2 h
        refine lv_iload_n hx hb dX5_pipesOf_44 rfl (lv_at hl 3 rfl) ?_
        cases h
        exact rt_i hx hb hr hlocks hS hP hK hD dX5_pipesOf_45
      · replace h := fn c2 h
        refine lv_iload_n hx hb dX5_pipesOf_16 rfl (lv_at hl 3 rfl) ?_
        refine lv_aload_n hx hb dX5_pipesOf_17 rfl (lv_at hl 0 rfl) ?_
        refine lv_iload hx hb dX5_pipesOf_18 (lv_at hl 4 rfl) ?_
        refine lv_iload_n hx hb dX5_pipesOf_20 rfl (lv_at hl 2 rfl) ?_
        obtain ⟨u3, e4, h⟩ := b1_ok h
        refine cl_Vi (ws' := (wX5 a cI cC cO M)) ⟨hx, hb, hml, hown, ht⟩ (c_X5_pi l D cI cC cO a M y4 y2 _ _ e4) (cwv 2 ht wd_678 wd_6 wd_675 wd_677 ws_28 (by decide +kernel) rfl rfl ⟨Nat.le_of_ble_eq_true rfl, Nat.le_of_ble_eq_true rfl⟩) 5 0 rfl rfl rfl hK hP hD hS hA hN [0, 1, 2, 3, 4, 5, 6, 7, 8, 9, 10, 11, 12] [] [0, 1, 2, 3, 4, 5, 6, 7, 8, 9, 10, 11, 12] (by decide) rfl rfl (by decide) (by decide) rfl (by decide) rfl hl.1 rfl (Nat.le_of_ble_eq_true rfl) dX5_pipesOf_21 ⟨Nat.le_of_ble_eq_true rfl, Nat.le_of_ble_eq_true rfl⟩ (fun H locs hP hD hS => ?_)
        refine lv_iload_n hx hb dX5_pipesOf_24 rfl (lv_at hl 1 rfl) ?_
        refine lv_icmp_ne (tgt := 35) hx hb dX5_pipesOf_25 (by decide) (fun c5 => ?_) (fun c5 => ?_)
        · replace h := fn c5 h
          refine lv_iconst (v := (0 : Int32)) hx hb dX5_pipesOf_35 (by decide) ?_
          refine lv_ior hx hb dX5_pipesOf_36 ?_
          refine lv_istore_n (lv' := [(3, .int (y3 ||| (0 : Int32))), (0, .ref (a 0)), (1, .int y1), (2, .int y2), (4, .int y4)]) hx hb dX5_pipesOf_37 rfl hl (by decide) rfl (fun ls hl => ?_)
          refine lv_iinc (v := (y4 + 1)) (lv' := [(4, .int (y4 + 1)), (3, .int (y3 ||| (0 : Int32))), (0, .ref (a 0)), (1, .int y1), (2, .int y2)]) hx hb dX5_pipesOf_38 hl (k := 4) rfl rfl (by decide) rfl (fun ls hl => ?_)
          refine lv_goto (tgt := 5) hx hb dX5_pipesOf_41 (by decide) ?_
          exact ih5 y1 y2 (y3 ||| (0 : Int32)) (y4 + 1) _ _ ls h hP hD hS (lv_sub hl [2, 3, 4, 1, 0] rfl)
        · replace h := fp c5 h
          refine lv_iconst (v := (1 : Int32)) hx hb dX5_pipesOf_28 (by decide) ?_
          refine lv_iload hx hb dX5_pipesOf_29 (lv_at hl 4 rfl) ?_
          refine lv_ishl hx hb dX5_pipesOf_31 ?_
          refine lv_goto (tgt := 36) hx hb dX5_pipesOf_32 (by decide) ?_
          refine lv_ior hx hb dX5_pipesOf_36 ?_
          refine lv_istore_n (lv' := [(3, .int (y3 ||| ((1 : Int32) <<< (y4 &&& 31)))), (0, .ref (a 0)), (1, .int y1), (2, .int y2), (4, .int y4)]) hx hb dX5_pipesOf_37 rfl hl (by decide) rfl (fun ls hl => ?_)
          refine lv_iinc (v := (y4 + 1)) (lv' := [(4, .int (y4 + 1)), (3, .int (y3 ||| ((1 : Int32) <<< (y4 &&& 31)))), (0, .ref (a 0)), (1, .int y1), (2, .int y2)]) hx hb dX5_pipesOf_38 hl (k := 4) rfl rfl (by decide) rfl (fun ls hl => ?_)
          refine lv_goto (tgt := 5) hx hb dX5_pipesOf_41 (by decide) ?_
          exact ih5 y1 y2 (y3 ||| ((1 : Int32) <<< (y4 &&& 31))) (y4 + 1) _ _ ls h hP hD hS (lv_sub hl [2, 3, 4, 1, 0] rfl)
  unfold F_X5_pipesOf at h
  refine lv_iconst (v := (0 : Int32)) hx hb dX5_pipesOf_0 (by decide) ?_
  refine lv_istore_n (lv' := [(3, .int (0 : Int32)), (0, .ref (a 0)), (1, .int x1), (2, .int x2)]) hx hb dX5_pipesOf_1 rfl hl (by decide) rfl (fun ls hl => ?_)
  refine lv_iconst (v := (0 : Int32)) hx hb dX5_pipesOf_2 (by decide) ?_
  refine lv_istore (lv' := [(4, .int (0 : Int32)), (3, .int (0 : Int32)), (0, .ref (a 0)), (1, .int x1), (2, .int x2)]) hx hb dX5_pipesOf_3 hl (by decide) rfl (fun ls hl => ?_)
  exact w5 FU x1 x2 (0 : Int32) (0 : Int32) _ _ ls h hP hD hS (lv_sub hl [2, 3, 4, 1, 0] rfl)
theorem dX5_alone_0 : decode cX5_alone 0 = .ok (.iconst 0, 1) := by decide +kernel
theorem dX5_alone_1 : decode cX5_alone 1 = .ok (.istore_n 2, 1) := by decide +kernel
theorem dX5_alone_2 : decode cX5_alone 2 = .ok (.iload_n 2, 1) := by decide +kernel
theorem dX5_alone_3 : decode cX5_alone 3 = .ok (.bipush 96, 2) := by decide +kernel
theorem dX5_alone_5 : decode cX5_alone 5 = .ok (.if_icmp .ge 16, 3) := by decide +kernel
theorem dX5_alone_8 : decode cX5_alone 8 = .ok (.aload_n 0, 1) := by decide +kernel
theorem dX5_alone_9 : decode cX5_alone 9 = .ok (.getfield 38, 3) := by decide +kernel
theorem dX5_alone_12 : decode cX5_alone 12 = .ok (.iload_n 2, 1) := by decide +kernel
theorem dX5_alone_13 : decode cX5_alone 13 = .ok (.iconst (-1), 1) := by decide +kernel
theorem dX5_alone_14 : decode cX5_alone 14 = .ok (.iastore, 1) := by decide +kernel
theorem dX5_alone_15 : decode cX5_alone 15 = .ok (.iinc 2 1, 3) := by decide +kernel
theorem dX5_alone_18 : decode cX5_alone 18 = .ok (.goto (-16), 3) := by decide +kernel
theorem dX5_alone_21 : decode cX5_alone 21 = .ok (.aload_n 0, 1) := by decide +kernel
theorem dX5_alone_22 : decode cX5_alone 22 = .ok (.getfield 38, 3) := by decide +kernel
theorem dX5_alone_25 : decode cX5_alone 25 = .ok (.bipush 16, 2) := by decide +kernel
theorem dX5_alone_27 : decode cX5_alone 27 = .ok (.iload_n 1, 1) := by decide +kernel
theorem dX5_alone_28 : decode cX5_alone 28 = .ok (.imul, 1) := by decide +kernel
theorem dX5_alone_29 : decode cX5_alone 29 = .ok (.iconst 0, 1) := by decide +kernel
theorem dX5_alone_30 : decode cX5_alone 30 = .ok (.iastore, 1) := by decide +kernel
theorem dX5_alone_31 : decode cX5_alone 31 = .ok (.iconst 0, 1) := by decide +kernel
theorem dX5_alone_32 : decode cX5_alone 32 = .ok (.istore_n 2, 1) := by decide +kernel
theorem dX5_alone_33 : decode cX5_alone 33 = .ok (.iload_n 2, 1) := by decide +kernel
theorem dX5_alone_34 : decode cX5_alone 34 = .ok (.bipush 16, 2) := by decide +kernel
theorem dX5_alone_36 : decode cX5_alone 36 = .ok (.if_icmp .ge 196, 3) := by decide +kernel
theorem dX5_alone_39 : decode cX5_alone 39 = .ok (.aload_n 0, 1) := by decide +kernel
theorem dX5_alone_40 : decode cX5_alone 40 = .ok (.getfield 38, 3) := by decide +kernel
theorem dX5_alone_43 : decode cX5_alone 43 = .ok (.iload_n 2, 1) := by decide +kernel
theorem dX5_alone_44 : decode cX5_alone 44 = .ok (.iaload, 1) := by decide +kernel
theorem dX5_alone_45 : decode cX5_alone 45 = .ok (.ifCond .lt 5, 3) := by decide +kernel
theorem dX5_alone_48 : decode cX5_alone 48 = .ok (.iload_n 2, 1) := by decide +kernel
theorem dX5_alone_49 : decode cX5_alone 49 = .ok (.ireturn, 1) := by decide +kernel
theorem dX5_alone_50 : decode cX5_alone 50 = .ok (.iconst 1, 1) := by decide +kernel
theorem dX5_alone_51 : decode cX5_alone 51 = .ok (.istore_n 3, 1) := by decide +kernel
theorem dX5_alone_52 : decode cX5_alone 52 = .ok (.iload_n 3, 1) := by decide +kernel
theorem dX5_alone_53 : decode cX5_alone 53 = .ok (.aload_n 0, 1) := by decide +kernel
theorem dX5_alone_54 : decode cX5_alone 54 = .ok (.getfield 7, 3) := by decide +kernel
theorem dX5_alone_57 : decode cX5_alone 57 = .ok (.iconst 0, 1) := by decide +kernel
theorem dX5_alone_58 : decode cX5_alone 58 = .ok (.iaload, 1) := by decide +kernel
theorem dX5_alone_59 : decode cX5_alone 59 = .ok (.if_icmp .ge 167, 3) := by decide +kernel
theorem dX5_alone_62 : decode cX5_alone 62 = .ok (.aload_n 0, 1) := by decide +kernel
theorem dX5_alone_63 : decode cX5_alone 63 = .ok (.getfield 38, 3) := by decide +kernel
theorem dX5_alone_66 : decode cX5_alone 66 = .ok (.bipush 16, 2) := by decide +kernel
theorem dX5_alone_68 : decode cX5_alone 68 = .ok (.iload_n 3, 1) := by decide +kernel
theorem dX5_alone_69 : decode cX5_alone 69 = .ok (.imul, 1) := by decide +kernel
theorem dX5_alone_70 : decode cX5_alone 70 = .ok (.iload_n 2, 1) := by decide +kernel
theorem dX5_alone_71 : decode cX5_alone 71 = .ok (.iadd, 1) := by decide +kernel
theorem dX5_alone_72 : decode cX5_alone 72 = .ok (.iaload, 1) := by decide +kernel
theorem dX5_alone_73 : decode cX5_alone 73 = .ok (.ifCond .lt 7, 3) := by decide +kernel
theorem dX5_alone_76 : decode cX5_alone 76 = .ok (.iconst 1, 1) := by decide +kernel
theorem dX5_alone_77 : decode cX5_alone 77 = .ok (.goto 4, 3) := by decide +kernel
theorem dX5_alone_80 : decode cX5_alone 80 = .ok (.iconst 0, 1) := by decide +kernel
theorem dX5_alone_81 : decode cX5_alone 81 = .ok (.istore 4, 2) := by decide +kernel
theorem dX5_alone_83 : decode cX5_alone 83 = .ok (.iload 4, 2) := by decide +kernel
theorem dX5_alone_85 : decode cX5_alone 85 = .ok (.ifCond .eq 38, 3) := by decide +kernel
theorem dX5_alone_88 : decode cX5_alone 88 = .ok (.iload_n 2, 1) := by decide +kernel
theorem dX5_alone_89 : decode cX5_alone 89 = .ok (.bipush 15, 2) := by decide +kernel
theorem dX5_alone_91 : decode cX5_alone 91 = .ok (.if_icmp .ge 32, 3) := by decide +kernel
theorem dX5_alone_94 : decode cX5_alone 94 = .ok (.aload_n 0, 1) := by decide +kernel
theorem dX5_alone_95 : decode cX5_alone 95 = .ok (.getfield 7, 3) := by decide +kernel
theorem dX5_alone_98 : decode cX5_alone 98 = .ok (.iconst 2, 1) := by decide +kernel
theorem dX5_alone_99 : decode cX5_alone 99 = .ok (.iconst 2, 1) := by decide +kernel
theorem dX5_alone_100 : decode cX5_alone 100 = .ok (.iload_n 3, 1) := by decide +kernel
theorem dX5_alone_101 : decode cX5_alone 101 = .ok (.imul, 1) := by decide +kernel
theorem dX5_alone_102 : decode cX5_alone 102 = .ok (.iadd, 1) := by decide +kernel
theorem dX5_alone_103 : decode cX5_alone 103 = .ok (.iconst 1, 1) := by decide +kernel
theorem dX5_alone_104 : decode cX5_alone 104 = .ok (.iadd, 1) := by decide +kernel
theorem dX5_alone_105 : decode cX5_alone 105 = .ok (.iaload, 1) := by decide +kernel
theorem dX5_alone_106 : decode cX5_alone 106 = .ok (.ifCond .le 17, 3) := by decide +kernel
theorem dX5_alone_109 : decode cX5_alone 109 = .ok (.aload_n 0, 1) := by decide +kernel
theorem dX5_alone_110 : decode cX5_alone 110 = .ok (.getfield 38, 3) := by decide +kernel
theorem dX5_alone_113 : decode cX5_alone 113 = .ok (.bipush 16, 2) := by decide +kernel
theorem dX5_alone_115 : decode cX5_alone 115 = .ok (.iload_n 3, 1) := by decide +kernel
theorem dX5_alone_116 : decode cX5_alone 116 = .ok (.imul, 1) := by decide +kernel
theorem dX5_alone_117 : decode cX5_alone 117 = .ok (.iload_n 2, 1) := by decide +kernel
theorem dX5_alone_118 : decode cX5_alone 118 = .ok (.iadd, 1) := by decide +kernel
theorem dX5_alone_119 : decode cX5_alone 119 = .ok (.iconst 1, 1) := by decide +kernel
theorem dX5_alone_120 : decode cX5_alone 120 = .ok (.iadd, 1) := by decide +kernel
theorem dX5_alone_121 : decode cX5_alone 121 = .ok (.iconst 0, 1) := by decide +kernel
theorem dX5_alone_122 : decode cX5_alone 122 = .ok (.iastore, 1) := by decide +kernel
theorem dX5_alone_123 : decode cX5_alone 123 = .ok (.iconst 0, 1) := by decide +kernel
theorem dX5_alone_124 : decode cX5_alone 124 = .ok (.istore 5, 2) := by decide +kernel
theorem dX5_alone_126 : decode cX5_alone 126 = .ok (.iload 5, 2) := by decide +kernel
theorem dX5_alone_128 : decode cX5_alone 128 = .ok (.aload_n 0, 1) := by decide +kernel
theorem dX5_alone_129 : decode cX5_alone 129 = .ok (.getfield 7, 3) := by decide +kernel
theorem dX5_alone_132 : decode cX5_alone 132 = .ok (.iconst 1, 1) := by decide +kernel
theorem dX5_alone_133 : decode cX5_alone 133 = .ok (.iaload, 1) := by decide +kernel
theorem dX5_alone_134 : decode cX5_alone 134 = .ok (.if_icmp .ge 86, 3) := by decide +kernel
theorem dX5_alone_137 : decode cX5_alone 137 = .ok (.iload 4, 2) := by decide +kernel
theorem dX5_alone_139 : decode cX5_alone 139 = .ok (.ifCond .eq 81, 3) := by decide +kernel
theorem dX5_alone_142 : decode cX5_alone 142 = .ok (.aload_n 0, 1) := by decide +kernel
theorem dX5_alone_143 : decode cX5_alone 143 = .ok (.iload 5, 2) := by decide +kernel
theorem dX5_alone_145 : decode cX5_alone 145 = .ok (.iconst 0, 1) := by decide +kernel
theorem dX5_alone_146 : decode cX5_alone 146 = .ok (.invokevirtual 101, 3) := by decide +kernel
theorem dX5_alone_149 : decode cX5_alone 149 = .ok (.iload_n 3, 1) := by decide +kernel
theorem dX5_alone_150 : decode cX5_alone 150 = .ok (.if_icmp .ne 64, 3) := by decide +kernel
theorem dX5_alone_153 : decode cX5_alone 153 = .ok (.iload_n 2, 1) := by decide +kernel
theorem dX5_alone_154 : decode cX5_alone 154 = .ok (.aload_n 0, 1) := by decide +kernel
theorem dX5_alone_155 : decode cX5_alone 155 = .ok (.iload 5, 2) := by decide +kernel
theorem dX5_alone_157 : decode cX5_alone 157 = .ok (.iconst 4, 1) := by decide +kernel
theorem dX5_alone_158 : decode cX5_alone 158 = .ok (.invokevirtual 101, 3) := by decide +kernel
theorem dX5_alone_161 : decode cX5_alone 161 = .ok (.aload_n 0, 1) := by decide +kernel
theorem dX5_alone_162 : decode cX5_alone 162 = .ok (.iload 5, 2) := by decide +kernel
theorem dX5_alone_164 : decode cX5_alone 164 = .ok (.iconst 5, 1) := by decide +kernel
theorem dX5_alone_165 : decode cX5_alone 165 = .ok (.invokevirtual 101, 3) := by decide +kernel
theorem dX5_alone_168 : decode cX5_alone 168 = .ok (.invokestatic 63, 3) := by decide +kernel
theorem dX5_alone_171 : decode cX5_alone 171 = .ok (.ifCond .eq 43, 3) := by decide +kernel
theorem dX5_alone_174 : decode cX5_alone 174 = .ok (.iload_n 2, 1) := by decide +kernel
theorem dX5_alone_175 : decode cX5_alone 175 = .ok (.aload_n 0, 1) := by decide +kernel
theorem dX5_alone_176 : decode cX5_alone 176 = .ok (.iload 5, 2) := by decide +kernel
theorem dX5_alone_178 : decode cX5_alone 178 = .ok (.iconst 2, 1) := by decide +kernel
theorem dX5_alone_179 : decode cX5_alone 179 = .ok (.invokevirtual 101, 3) := by decide +kernel
theorem dX5_alone_182 : decode cX5_alone 182 = .ok (.iadd, 1) := by decide +kernel
theorem dX5_alone_183 : decode cX5_alone 183 = .ok (.bipush 16, 2) := by decide +kernel
theorem dX5_alone_185 : decode cX5_alone 185 = .ok (.if_icmp .ge 29, 3) := by decide +kernel
theorem dX5_alone_188 : decode cX5_alone 188 = .ok (.aload_n 0, 1) := by decide +kernel
theorem dX5_alone_189 : decode cX5_alone 189 = .ok (.getfield 38, 3) := by decide +kernel
theorem dX5_alone_192 : decode cX5_alone 192 = .ok (.bipush 16, 2) := by decide +kernel
theorem dX5_alone_194 : decode cX5_alone 194 = .ok (.aload_n 0, 1) := by decide +kernel
theorem dX5_alone_195 : decode cX5_alone 195 = .ok (.iload 5, 2) := by decide +kernel
theorem dX5_alone_197 : decode cX5_alone 197 = .ok (.iconst 1, 1) := by decide +kernel
theorem dX5_alone_198 : decode cX5_alone 198 = .ok (.invokevirtual 101, 3) := by decide +kernel
theorem dX5_alone_201 : decode cX5_alone 201 = .ok (.imul, 1) := by decide +kernel
theorem dX5_alone_202 : decode cX5_alone 202 = .ok (.iload_n 2, 1) := by decide +kernel
theorem dX5_alone_203 : decode cX5_alone 203 = .ok (.iadd, 1) := by decide +kernel
theorem dX5_alone_204 : decode cX5_alone 204 = .ok (.aload_n 0, 1) := by decide +kernel
theorem dX5_alone_205 : decode cX5_alone 205 = .ok (.iload 5, 2) := by decide +kernel
theorem dX5_alone_207 : decode cX5_alone 207 = .ok (.iconst 2, 1) := by decide +kernel
theorem dX5_alone_208 : decode cX5_alone 208 = .ok (.invokevirtual 101, 3) := by decide +kernel
theorem dX5_alone_211 : decode cX5_alone 211 = .ok (.iadd, 1) := by decide +kernel
theorem dX5_alone_212 : decode cX5_alone 212 = .ok (.iconst 0, 1) := by decide +kernel
theorem dX5_alone_213 : decode cX5_alone 213 = .ok (.iastore, 1) := by decide +kernel
theorem dX5_alone_214 : decode cX5_alone 214 = .ok (.iinc 5 1, 3) := by decide +kernel
theorem dX5_alone_217 : decode cX5_alone 217 = .ok (.goto (-91), 3) := by decide +kernel
theorem dX5_alone_220 : decode cX5_alone 220 = .ok (.iinc 3 1, 3) := by decide +kernel
theorem dX5_alone_223 : decode cX5_alone 223 = .ok (.goto (-171), 3) := by decide +kernel
theorem dX5_alone_226 : decode cX5_alone 226 = .ok (.iinc 2 1, 3) := by decide +kernel
theorem dX5_alone_229 : decode cX5_alone 229 = .ok (.goto (-196), 3) := by decide +kernel
theorem dX5_alone_232 : decode cX5_alone 232 = .ok (.ldc 104, 2) := by decide +kernel
theorem dX5_alone_234 : decode cX5_alone 234 = .ok (.ireturn, 1) := by decide +kernel
set_option maxHeartbeats 4000000 in
set_option maxRecDepth 100000 in
theorem c_X5_alone (l : Launch) (D : va_G) (cI cC cO : ClassId) (a : Nat → Nat) (M : Mm) (x1 : Int32) (res : Int32 × Mm) (sz : Nat) (h : F_X5_alone M x1 = some res) : Met l yX5_alone (Cond.code yX5_alone cX5_alone 6 (Option.some Jvm.ClassFile.FieldType.int) :: lw_g) ({ frames := 1, cells := 0, slots := 0, locals := 22 } : Room) (va_Pc [.ref (a 0), .int x1] (pS D cI cC cO sz (wX5 a cI cC cO M))) (QI D cI cC cO (va_A (wX5 a cI cC cO M) sz) (wX5 a cI cC cO res.2) res.1) 0 0 (va_A (wX5 a cI cC cO M) sz) := by
  refine Met.ofW (cc := cX5_alone) (maxL := 6) (ret := (Option.some Jvm.ClassFile.FieldType.int)) (by decide) rfl ?_
  intro p e s m args below meth c s₁ B hml hv
  obtain ⟨rfl, rfl, hP, hK, hD0, hN⟩ := hv
  have hx := B.exec
  have hb := B.bytes
  have hr := B.returns
  have ht : ∀ w ∈ lw_g, w.before ([.ref (a 0), .int x1] : List Value).toArray s = true := fun w hw => atoms_spec (ws := Cond.code yX5_alone cX5_alone 6 (Option.some Jvm.ClassFile.FieldType.int) :: lw_g) B.pre w (List.mem_cons_of_mem _ hw)
  have hown : s.vm.findClass RX5 = some m.cls := findClass_of_methodNamed B.named
  have hlocks := B.notSynchronized
  have hD := hD0.self (sz := s.heap.size)
  generalize hAe : va_A (wX5 a cI cC cO M) s.heap.size = A at hD ⊢
  have hA : ∀ q : Nat, s.heap.size ≤ q → A q := fun q hq => by rw [← hAe]; exact Or.inr hq
  have hS : va_S A s.heap s.heap [] := va_S.rf
  have hl := lv_entry ([.ref (a 0), .int x1]) (n := 6) (Nat.le_of_ble_eq_true rfl)
  rw [lg_entry_eq]
  generalize (lg_sl ([.ref (a 0), .int x1]) ++ List.replicate (6 - (lg_sl ([.ref (a 0), .int x1])).length) Slot.unset).toArray = ls at hl ⊢
  have hl : lv_has ls 6 [(0, .ref (a 0)), (1, .int x1)] := hl
  have w33 : ∀ (n33 : Nat) (M : Mm) (y2 : Int32) (H : Heap) (locs : List Loc) (ls : Array Slot), F_X5_alone_33 n33 M y2 = some res → va_P D classes (wX5 a cI cC cO M) H → va_D A (wX5 a cI cC cO M) → va_S A s.heap H locs → lv_has ls 6 [(0, .ref (a 0)), (2, .int y2)] → W p l e ({ frames := 1, cells := 0, slots := 0, locals := 22 } : Room) s m ([.ref (a 0), .int x1] : List Value).toArray below meth c H locs 0 0 (MQ below (QI D cI cC cO A (wX5 a cI cC cO res.2) res.1) ([.ref (a 0), .int x1] : List Value).toArray s 0 0 A) (F0 m 33 ls []) := by
    intro n33
    induction n33 with
    | zero => intro M y2 H locs ls h hP hD hS hl; exact absurd (show (none : Option (Int32 × Mm)) = some res from h) (by simp)
    | succ n33 ih33 =>
      have w52 : ∀ (n52 : Nat) (M : Mm) (y2 y3 : Int32) (H : Heap) (locs : List Loc) (ls : Array Slot), F_X5_alone_52 (F_X5_alone_33 n33) n52 M y2 y3 = some res → va_P D classes (wX5 a cI cC cO M) H → va_D A (wX5 a cI cC cO M) → va_S A s.heap H locs → lv_has ls 6 [(0, .ref (a 0)), (2, .int y2), (3, .int y3)] → W p l e ({ frames := 1, cells := 0, slots := 0, locals := 22 } : Room) s m ([.ref (a 0), .int x1] : List Value).toArray below meth c H locs 0 0 (MQ below (QI D cI cC cO A (wX5 a cI cC cO res.2) res.1) ([.ref (a 0), .int x1] : List Value).toArray s 0 0 A) (F0 m 52 ls []) := by
        intro n52
        induction n52 with
        | zero => intro M y2 y3 H locs ls h hP hD hS hl; exact absurd (show (none : Option (Int32 × Mm)) = some res from h) (by simp)
        | succ n52 ih52 =>
          have w126 : ∀ (n126 : Nat) (M : Mm) (y2 y3 y4 y5 : Int32) (H : Heap) (locs : List Loc) (ls : Array Slot), F_X5_alone_126 (F_X5_alone_33 n33) (F_X5_alone_52 (F_X5_alone_33 n33) n52) n126 M y2 y3 y4 y5 = some res → va_P D classes (wX5 a cI cC cO M) H → va_D A (wX5 a cI cC cO M) → va_S A s.heap H locs → lv_has ls 6 [(0, .ref (a 0)), (2, .int y2), (3, .int y3), (4, .int y4), (5, .int y5)] → W p l e ({ frames := 1, cells := 0, slots := 0, locals := 22 } : Room) s m ([.ref (a 0), .int x1] : List Value).toArray below meth c H locs 0 0 (MQ below (QI D cI cC cO A (wX5 a cI cC cO res.2) res.1) ([.ref (a 0), .int x1] : List Value).toArray s 0 0 A) (F0 m 126 ls []) := by
            intro n126
            induction n126 with
            | zero => intro M y2 y3 y4 y5 H locs ls h hP hD hS hl; exact absurd (show (none : Option (Int32 × Mm)) = some res from h) (by simp)
            | succ n126 ih126 =>
              intro M y2 y3 y4 y5 H locs ls h hP hD hS hl
              have h : F_X5_aloneB_126 (F_X5_alone_33 n33) (F_X5_alone_52 (F_X5_alone_33 n33) n52) (F_X5_alone_126 (F_X5_alone_33 n33) (F_X5_alone_52 (F_X5_alone_33 n33) n52) n126) M y2 y3 y4 y5 = some res := h
              unfold F_X5_aloneB_126 at h
              refine lv_iload hx hb dX5_alone_126 (lv_at hl 4 rfl) ?_
              refine lv_aload_n hx hb dX5_alone_128 rfl (lv_at hl 0 rfl) ?_
              refine va_get (D := D) (ci := 5) (v := .ref (a 1)) (C := RX5) (T := TX5) (N := 23) hx hb ht i_X5 hown hK hP 0 rfl rfl 0 (by decide) (ht _ wd_536) (fun _ h9 => h9) rfl dX5_alone_129 ?_
              refine lv_iconst (v := (1 : Int32)) hx hb dX5_alone_132 (by decide) ?_
              obtain ⟨i1, h⟩ := ck_ok h
              refine va_iald hx hb hK hP 1 0 rfl rfl i1 dX5_alone_133 ?_
              refine lv_icmp_ge (tgt := 220) hx hb dX5_alone_134 (by decide) (fun c2 => ?_) (fun c2 => ?_)
              · replace h := fp c2 h
                refine lv_iinc (v := (y3 + 1)) (lv' := [(3, .int (y3 + 1)), (0, .ref (a 0)), (2, .int y2), (4, .int y4), (5, .int y5)]) hx hb dX5_alone_220 hl (k := 2) rfl rfl (by decide) rfl (fun ls hl => ?_)
                refine lv_goto (tgt := 52) hx hb dX5_alone_223 (by decide) ?_
                exact ih52 M y2 (y3 + 1) _ _ ls h hP hD hS (lv_sub hl [1, 2, 0] rfl)
              · replace h := fn c2 h
                refine lv_iload hx hb dX5_alone_137 (lv_at hl 3 rfl) ?_
                refine lv_if_eq (tgt := 220) hx hb dX5_alone_139 (by decide) (fun c3 => ?_) (fun c3 => ?_)
                · replace h := fp c3 h
                  refine lv_iinc (v := (y3 + 1)) (lv' := [(3, .int (y3 + 1)), (0, .ref (a 0)), (2, .int y2), (4, .int y4), (5, .int y5)]) hx hb dX5_alone_220 hl (k := 2) rfl rfl (by decide) rfl (fun ls hl => ?_)
                  refine lv_goto (tgt := 52) hx hb dX5_alone_223 (by decide) ?_
                  exact ih52 M y2 (y3 + 1) _ _ ls h hP hD hS (lv_sub hl [1, 2, 0] rfl)
                · replace h := fn c3 h
                  refine lv_aload_n hx hb dX5_alone_142 rfl (lv_at hl 0 rfl) ?_
                  refine lv_iload hx hb dX5_alone_143 (lv_at hl 4 rfl) ?_
                  refine lv_iconst (v := (0 : Int32)) hx hb dX5_alone_145 (by decide) ?_
                  obtain ⟨u4, e5, h⟩ := b1_ok h
                  refine cl_Vi (ws' := (wX5 a cI cC cO M)) ⟨hx, hb, hml, hown, ht⟩ (c_X5_pi l D cI cC cO a M y5 (0 : Int32) _ _ e5) (cwv 2 ht wd_678 wd_6 wd_675 wd_677 ws_28 (by decide +kernel) rfl rfl ⟨Nat.le_of_ble_eq_true rfl, Nat.le_of_ble_eq_true rfl⟩) 5 0 rfl rfl rfl hK hP hD hS hA hN [0, 1, 2, 3, 4, 5, 6, 7, 8, 9, 10, 11, 12] [] [0, 1, 2, 3, 4, 5, 6, 7, 8, 9, 10, 11, 12] (by decide) rfl rfl (by decide) (by decide) rfl (by decide) rfl hl.1 rfl (Nat.le_of_ble_eq_true rfl) dX5_alone_146 ⟨Nat.le_of_ble_eq_true rfl, Nat.le_of_ble_eq_true rfl⟩ (fun H locs hP hD hS => ?_)
                  refine lv_iload_n hx hb dX5_alone_149 rfl (lv_at hl 2 rfl) ?_
                  refine lv_icmp_ne (tgt := 214) hx hb dX5_alone_150 (by decide) (fun c6 => ?_) (fun c6 => ?_)
                  · replace h := fn c6 h
                    refine lv_iinc (v := (y5 + 1)) (lv' := [(5, .int (y5 + 1)), (0, .ref (a 0)), (2, .int y2), (3, .int y3), (4, .int y4)]) hx hb dX5_alone_214 hl (k := 4) rfl rfl (by decide) rfl (fun ls hl => ?_)
                    refine lv_goto (tgt := 126) hx hb dX5_alone_217 (by decide) ?_
                    exact ih126 M y2 y3 y4 (y5 + 1) _ _ ls h hP hD hS (lv_sub hl [1, 2, 3, 4, 0] rfl)
                  · replace h := fp c6 h
                    refine lv_iload_n hx hb dX5_alone_153 rfl (lv_at hl 1 rfl) ?_
                    refine lv_aload_n hx hb dX5_alone_154 rfl (lv_at hl 0 rfl) ?_
                    refine lv_iload hx hb dX5_alone_155 (lv_at hl 4 rfl) ?_
                    refine lv_iconst (v := (4 : Int32)) hx hb dX5_alone_157 (by decide) ?_
                    obtain ⟨u7, e8, h⟩ := b1_ok h
                    refine cl_Vi (ws' := (wX5 a cI cC cO M)) ⟨hx, hb, hml, hown, ht⟩ (c_X5_pi l D cI cC cO a M y5 (4 : Int32) _ _ e8) (cwv 2 ht wd_678 wd_6 wd_675 wd_677 ws_28 (by decide +kernel) rfl rfl ⟨Nat.le_of_ble_eq_true rfl, Nat.le_of_ble_eq_true rfl⟩) 5 0 rfl rfl rfl hK hP hD hS hA hN [0, 1, 2, 3, 4, 5, 6, 7, 8, 9, 10, 11, 12] [] [0, 1, 2, 3, 4, 5, 6, 7, 8, 9, 10, 11, 12] (by decide) rfl rfl (by decide) (by decide) rfl (by decide) rfl hl.1 rfl (Nat.le_of_ble_eq_true rfl) dX5_alone_158 ⟨Nat.le_of_ble_eq_true rfl, Nat.le_of_ble_eq_true rfl⟩ (fun H locs hP hD hS => ?_)
                    refine lv_aload_n hx hb dX5_alone_161 rfl (lv_at hl 0 rfl) ?_
                    refine lv_iload hx hb dX5_alone_162 (lv_at hl 4 rfl) ?_
                    refine lv_iconst (v := (5 : Int32)) hx hb dX5_alone_164 (by decide) ?_
                    obtain ⟨u9, e10, h⟩ := b1_ok h
                    refine cl_Vi (ws' := (wX5 a cI cC cO M)) ⟨hx, hb, hml, hown, ht⟩ (c_X5_pi l D cI cC cO a M y5 (5 : Int32) _ _ e10) (cwv 2 ht wd_678 wd_6 wd_675 wd_677 ws_28 (by decide +kernel) rfl rfl ⟨Nat.le_of_ble_eq_true rfl, Nat.le_of_ble_eq_true rfl⟩) 5 0 rfl rfl rfl hK hP hD hS hA hN [0, 1, 2, 3, 4, 5, 6, 7, 8, 9, 10, 11, 12] [] [0, 1, 2, 3, 4, 5, 6, 7, 8, 9, 10, 11, 12] (by decide) rfl rfl (by decide) (by decide) rfl (by decide) rfl hl.1 rfl (Nat.le_of_ble_eq_true rfl) dX5_alone_165 ⟨Nat.le_of_ble_eq_true rfl, Nat.le_of_ble_eq_true rfl⟩ (fun H locs hP hD hS => ?_)
                    obtain ⟨u11, e12, h⟩ := b1_ok h
                    refine cl_Si (ws' := (wX5 a cI cC cO M)) ⟨hx, hb, hml, hown, ht⟩ (c_X5_in l D cI cC cO y2 u7 u9 _ _ e12) (cwst 3 ht wd_612 wd_6 wd_610 wd_611 (by decide +kernel) rfl rfl ⟨Nat.le_of_ble_eq_true rfl, Nat.le_of_ble_eq_true rfl⟩) hK hP hD hS hA hN [] [0, 1, 2, 3, 4, 5, 6, 7, 8, 9, 10, 11, 12] [0, 1, 2, 3, 4, 5, 6, 7, 8, 9, 10, 11, 12] (by decide) rfl rfl (by decide) (by decide) rfl (by decide) rfl hl.1 rfl (Nat.le_of_ble_eq_true rfl) dX5_alone_168 ⟨Nat.le_of_ble_eq_true rfl, Nat.le_of_ble_eq_true rfl⟩ (fun H locs hP hD hS => ?_)
                    refine lv_if_eq (tgt := 214) hx hb dX5_alone_171 (by decide) (fun c13 => ?_) (fun c13 => ?_)
                    · replace h := fp c13 h
                      refine lv_iinc (v := (y5 + 1)) (lv' := [(5, .int (y5 + 1)), (0, .ref (a 0)), (2, .int y2), (3, .int y3), (4, .int y4)]) hx hb dX5_alone_214 hl (k := 4) rfl rfl (by decide) rfl (fun ls hl => ?_)
                      refine lv_goto (tgt := 126) hx hb dX5_alone_217 (by decide) ?_
                      exact ih126 M y2 y3 y4 (y5 + 1) _ _ ls h hP hD hS (lv_sub hl [1, 2, 3, 4, 0] rfl)
                    · replace h := fn c13 h
                      refine lv_iload_n hx hb dX5_alone_174 rfl (lv_at hl 1 rfl) ?_
                      refine lv_aload_n hx hb dX5_alone_175 rfl (lv_at hl 0 rfl) ?_
                      refine lv_iload hx hb dX5_alone_176 (lv_at hl 4 rfl) ?_
                      refine lv_iconst (v := (2 : Int32)) hx hb dX5_alone_178 (by decide) ?_
                      obtain ⟨u14, e15, h⟩ := b1_ok h
                      refine cl_Vi (ws' := (wX5 a cI cC cO M)) ⟨hx, hb, hml, hown, ht⟩ (c_X5_pi l D cI cC cO a M y5 (2 : Int32) _ _ e15) (cwv 2 ht wd_678 wd_6 wd_675 wd_677 ws_28 (by decide +kernel) rfl rfl ⟨Nat.le_of_ble_eq_true rfl, Nat.le_of_ble_eq_true rfl⟩) 5 0 rfl rfl rfl hK hP hD hS hA hN [0, 1, 2, 3, 4, 5, 6, 7, 8, 9, 10, 11, 12] [] [0, 1, 2, 3, 4, 5, 6, 7, 8, 9, 10, 11, 12] (by decide) rfl rfl (by decide) (by decide) rfl (by decide) rfl hl.1 rfl (Nat.le_of_ble_eq_true rfl) dX5_alone_179 ⟨Nat.le_of_ble_eq_true rfl, Nat.le_of_ble_eq_true rfl⟩ (fun H locs hP hD hS => ?_)
                      refine lv_iadd hx hb dX5_alone_182 ?_
                      refine lv_bipush (v := (16 : Int32)) hx hb dX5_alone_183 (by decide) ?_
                      refine lv_icmp_ge (tgt := 214) hx hb dX5_alone_185 (by decide) (fun c16 => ?_) (fun c16 => ?_)
                      · replace h := fp c16 h
                        refine lv_iinc (v := (y5 + 1)) (lv' := [(5, .int (y5 + 1)), (0, .ref (a 0)), (2, .int y2), (3, .int y3), (4, .int y4)]) hx hb dX5_alone_214 hl (k := 4) rfl rfl (by decide) rfl (fun ls hl => ?_)
                        refine lv_goto (tgt := 126) hx hb dX5_alone_217 (by decide) ?_
                        exact ih126 M y2 y3 y4 (y5 + 1) _ _ ls h hP hD hS (lv_sub hl [1, 2, 3, 4, 0] rfl)
                      · replace h := fn c16 h
                        refine lv_aload_n hx hb dX5_alone_188 rfl (lv_at hl 0 rfl) ?_
                        refine va_get (D := D) (ci := 5) (v := .ref (a 10)) (C := RX5) (T := TX5) (N := 23) hx hb ht i_X5 hown hK hP 0 rfl rfl 14 (by decide) (ht _ wd_550) (fun _ h9 => h9) rfl dX5_alone_189 ?_
                        refine lv_bipush (v := (16 : Int32)) hx hb dX5_alone_192 (by decide) ?_
                        refine lv_aload_n hx hb dX5_alone_194 rfl (lv_at hl 0 rfl) ?_
                        refine lv_iload hx hb dX5_alone_195 (lv_at hl 4 rfl) ?_
                        refine lv_iconst (v := (1 : Int32)) hx hb dX5_alone_197 (by decide) ?_
                        obtain ⟨u17, e18, h⟩ := b1_ok h
                        refine cl_Vi (ws' := (wX5 a cI cC cO M)) ⟨hx, hb, hml, hown, ht⟩ (c_X5_pi l D cI cC cO a M y5 (1 : Int32) _ _ e18) (cwv 2 ht wd_678 wd_6 wd_675 wd_677 ws_28 (by decide +kernel) rfl rfl ⟨Nat.le_of_ble_eq_true rfl, Nat.le_of_ble_eq_true rfl⟩) 5 0 rfl rfl rfl hK hP hD hS hA hN [0, 1, 2, 3, 4, 5, 6, 7, 8, 9, 10, 11, 12] [] [0, 1, 2, 3, 4, 5, 6, 7, 8, 9, 10, 11, 12] (by decide) rfl rfl (by decide) (by decide) rfl (by decide) rfl hl.1 rfl (Nat.le_of_ble_eq_true rfl) dX5_alone_198 ⟨Nat.le_of_ble_eq_true rfl, Nat.le_of_ble_eq_true rfl⟩ (fun H locs hP hD hS => ?_)
                        refine lv_imul hx hb dX5_alone_201 ?_
                        refine lv_iload_n hx hb dX5_alone_202 rfl (lv_at hl 1 rfl) ?_
                        refine lv_iadd hx hb dX5_alone_203 ?_
                        refine lv_aload_n hx hb dX5_alone_204 rfl (lv_at hl 0 rfl) ?_
                        refine lv_iload hx hb dX5_alone_205 (lv_at hl 4 rfl) ?_
                        refine lv_iconst (v := (2 : Int32)) hx hb dX5_alone_207 (by decide) ?_
                        obtain ⟨u19, e20, h⟩ := b1_ok h
                        refine cl_Vi (ws' := (wX5 a cI cC cO M)) ⟨hx, hb, hml, hown, ht⟩ (c_X5_pi l D cI cC cO a M y5 (2 : Int32) _ _ e20) (cwv 2 ht wd_678 wd_6 wd_675 wd_677 ws_28 (by decide +kernel) rfl rfl ⟨Nat.le_of_ble_eq_true rfl, Nat.le_of_ble_eq_true rfl⟩) 5 0 rfl rfl rfl hK hP hD hS hA hN [0, 1, 2, 3, 4, 5, 6, 7, 8, 9, 10, 11, 12] [] [0, 1, 2, 3, 4, 5, 6, 7, 8, 9, 10, 11, 12] (by decide) rfl rfl (by decide) (by decide) rfl (by decide) rfl hl.1 rfl (Nat.le_of_ble_eq_true rfl) dX5_alone_208 ⟨Nat.le_of_ble_eq_true rfl, Nat.le_of_ble_eq_true rfl⟩ (fun H locs hP hD hS => ?_)
                        refine lv_iadd hx hb dX5_alone_211 ?_
                        refine lv_iconst (v := (0 : Int32)) hx hb dX5_alone_212 (by decide) ?_
                        obtain ⟨i21, h⟩ := ck_ok h
                        refine va_iast hx hb hK hP hD hS 10 0 rfl rfl i21 dX5_alone_213 (fun H locs hP hD hS => ?_)
                        obtain ⟨M22, e23, h⟩ := sv_ok h
                        have hP : va_P D classes (wX5 a cI cC cO M22) H := by rw [← e23]; exact hP
                        have hD : va_D A (wX5 a cI cC cO M22) := by rw [← e23]; exact hD
                        refine lv_iinc (v := (y5 + 1)) (lv' := [(5, .int (y5 + 1)), (0, .ref (a 0)), (2, .int y2), (3, .int y3), (4, .int y4)]) hx hb dX5_alone_214 hl (k := 4) rfl rfl (by decide) rfl (fun ls hl => ?_)
                        refine lv_goto (tgt := 126) hx hb dX5_alone_217 (by decide) ?_
                        exact ih126 M22 y2 y3 y4 (y5 + 1) _ _ ls h hP hD hS (lv_sub hl [1, 2, 3, 4, 0] rfl)
          have w81 : ∀ (M : Mm) (y2 y3 s0 : Int32) (H : Heap) (locs : List Loc) (ls : Array Slot), F_X5_alone_81 (F_X5_alone_33 n33) (F_X5_alone_52 (F_X5_alone_33 n33) n52) M y2 y3 s0 = some res → va_P D classes (wX5 a cI cC cO M) H → va_D A (wX5 a cI cC cO M) → va_S A s.heap H locs → lv_has ls 6 [(0, .ref (a 0)), (2, .int y2), (3, .int y3)] → W p l e ({ frames := 1, cells := 0, slots := 0, locals := 22 } : Room) s m ([.ref (a 0), .int x1] : List Value).toArray below meth c H locs 0 0 (MQ below (QI D cI cC cO A (wX5 a cI cC cO res.2) res.1) ([.ref (a 0), .int x1] : List Value).toArray s 0 0 A) (F0 m 81 ls [.int s0]) := by
            intro M y2 y3 s0 H locs ls h hP hD hS hl
            unfold F_X5_alone_81 at h
            refine lv_istore (lv' := [(4, .int s0), (0, .ref (a 0)), (2, .int y2), (3, .int y3)]) hx hb dX5_alone_81 hl (by decide) rfl (fun ls hl => ?_)
            refine lv_iload hx hb dX5_alone_83 (lv_at hl 0 rfl) ?_
            refine lv_if_eq (tgt := 123) hx hb dX5_alone_85 (by decide) (fun c1 => ?_) (fun c1 => ?_)
            · replace h := fp c1 h
              refine lv_iconst (v := (0 : Int32)) hx hb dX5_alone_123 (by decide) ?_
              refine lv_istore (lv' := [(5, .int (0 : Int32)), (4, .int s0), (0, .ref (a 0)), (2, .int y2), (3, .int y3)]) hx hb dX5_alone_124 hl (by decide) rfl (fun ls hl => ?_)
              exact w126 FU M y2 y3 s0 (0 : Int32) _ _ ls h hP hD hS (lv_sub hl [2, 3, 4, 1, 0] rfl)
            · replace h := fn c1 h
              refine lv_iload_n hx hb dX5_alone_88 rfl (lv_at hl 2 rfl) ?_
              refine lv_bipush (v := (15 : Int32)) hx hb dX5_alone_89 (by decide) ?_
              refine lv_icmp_ge (tgt := 123) hx hb dX5_alone_91 (by decide) (fun c2 => ?_) (fun c2 => ?_)
              · replace h := fp c2 h
                refine lv_iconst (v := (0 : Int32)) hx hb dX5_alone_123 (by decide) ?_
                refine lv_istore (lv' := [(5, .int (0 : Int32)), (4, .int s0), (0, .ref (a 0)), (2, .int y2), (3, .int y3)]) hx hb dX5_alone_124 hl (by decide) rfl (fun ls hl => ?_)
                exact w126 FU M y2 y3 s0 (0 : Int32) _ _ ls h hP hD hS (lv_sub hl [2, 3, 4, 1, 0] rfl)
              · replace h := fn c2 h
                refine lv_aload_n hx hb dX5_alone_94 rfl (lv_at hl 1 rfl) ?_
                refine va_get (D := D) (ci := 5) (v := .ref (a 1)) (C := RX5) (T := TX5) (N := 23) hx hb ht i_X5 hown hK hP 0 rfl rfl 0 (by decide) (ht _ wd_536) (fun _ h9 => h9) rfl dX5_alone_95 ?_
                refine lv_iconst (v := (2 : Int32)) hx hb dX5_alone_98 (by decide) ?_
                refine lv_iconst (v := (2 : Int32)) hx hb dX5_alone_99 (by decide) ?_
                refine lv_iload_n hx hb dX5_alone_100 rfl (lv_at hl 3 rfl) ?_
                refine lv_imul hx hb dX5_alone_101 ?_
                refine lv_iadd hx hb dX5_alone_102 ?_
                refine lv_iconst (v := (1 : Int32)) hx hb dX5_alone_103 (by decide) ?_
                refine lv_iadd hx hb dX5_alone_104 ?_
                obtain ⟨i3, h⟩ := ck_ok h
                refine va_iald hx hb hK hP 1 0 rfl rfl i3 dX5_alone_105 ?_
                refine lv_if_le (tgt := 123) hx hb dX5_alone_106 (by decide) (fun c4 => ?_) (fun c4 => ?_)
                · replace h := fp c4 h
                  refine lv_iconst (v := (0 : Int32)) hx hb dX5_alone_123 (by decide) ?_
                  refine lv_istore (lv' := [(5, .int (0 : Int32)), (4, .int s0), (0, .ref (a 0)), (2, .int y2), (3, .int y3)]) hx hb dX5_alone_124 hl (by decide) rfl (fun ls hl => ?_)
                  exact w126 FU M y2 y3 s0 (0 : Int32) _ _ ls h hP hD hS (lv_sub hl [2, 3, 4, 1, 0] rfl)
                · replace h := fn c4 h
                  refine lv_aload_n hx hb dX5_alone_109 rfl (lv_at hl 1 rfl) ?_
                  refine va_get (D := D) (ci := 5) (v := .ref (a 10)) (C := RX5) (T := TX5) (N := 23) hx hb ht i_X5 hown hK hP 0 rfl rfl 14 (by decide) (ht _ wd_550) (fun _ h9 => h9) rfl dX5_alone_110 ?_
                  refine lv_bipush (v := (16 : Int32)) hx hb dX5_alone_113 (by decide) ?_
                  refine lv_iload_n hx hb dX5_alone_115 rfl (lv_at hl 3 rfl) ?_
                  refine lv_imul hx hb dX5_alone_116 ?_
                  refine lv_iload_n hx hb dX5_alone_117 rfl (lv_at hl 2 rfl) ?_
                  refine lv_iadd hx hb dX5_alone_118 ?_
                  refine lv_iconst (v := (1 : Int32)) hx hb dX5_alone_119 (by decide) ?_
                  refine lv_iadd hx hb dX5_alone_120 ?_
                  refine lv_iconst (v := (0 : Int32)) hx hb dX5_alone_121 (by decide) ?_
                  obtain ⟨i5, h⟩ := ck_ok h
                  refine va_iast hx hb hK hP hD hS 10 0 rfl rfl i5 dX5_alone_122 (fun H locs hP hD hS => ?_)
                  obtain ⟨M6, e7, h⟩ := sv_ok h
                  have hP : va_P D classes (wX5 a cI cC cO M6) H := by rw [← e7]; exact hP
                  have hD : va_D A (wX5 a cI cC cO M6) := by rw [← e7]; exact hD
                  refine lv_iconst (v := (0 : Int32)) hx hb dX5_alone_123 (by decide) ?_
                  refine lv_istore (lv' := [(5, .int (0 : Int32)), (4, .int s0), (0, .ref (a 0)), (2, .int y2), (3, .int y3)]) hx hb dX5_alone_124 hl (by decide) rfl (fun ls hl => ?_)
                  exact w126 FU M6 y2 y3 s0 (0 : Int32) _ _ ls h hP hD hS (lv_sub hl [2, 3, 4, 1, 0] rfl)
          intro M y2 y3 H locs ls h hP hD hS hl
          have h : F_X5_aloneB_52 (F_X5_alone_33 n33) (F_X5_alone_52 (F_X5_alone_33 n33) n52) M y2 y3 = some res := h
          unfold F_X5_aloneB_52 at h
          refine lv_iload_n hx hb dX5_alone_52 rfl (lv_at hl 2 rfl) ?_
          refine lv_aload_n hx hb dX5_alone_53 rfl (lv_at hl 0 rfl) ?_
          refine va_get (D := D) (ci := 5) (v := .ref (a 1)) (C := RX5) (T := TX5) (N := 23) hx hb ht i_X5 hown hK hP 0 rfl rfl 0 (by decide) (ht _ wd_536) (fun _ h9 => h9) rfl dX5_alone_54 ?_
          refine lv_iconst (v := (0 : Int32)) hx hb dX5_alone_57 (by decide) ?_
          obtain ⟨i1, h⟩ := ck_ok h
          refine va_iald hx hb hK hP 1 0 rfl rfl i1 dX5_alone_58 ?_
          refine lv_icmp_ge (tgt := 226) hx hb dX5_alone_59 (by decide) (fun c2 => ?_) (fun c2 => ?_)
          · replace h := fp c2 h
            refine lv_iinc (v := (y2 + 1)) (lv' := [(2, .int (y2 + 1)), (0, .ref (a 0)), (3, .int y3)]) hx hb dX5_alone_226 hl (k := 1) rfl rfl (by decide) rfl (fun ls hl => ?_)
            refine lv_goto (tgt := 33) hx hb dX5_alone_229 (by decide) ?_
            exact ih33 M (y2 + 1) _ _ ls h hP hD hS (lv_sub hl [1, 0] rfl)
          · replace h := fn c2 h
            refine lv_aload_n hx hb dX5_alone_62 rfl (lv_at hl 0 rfl) ?_
            refine va_get (D := D) (ci := 5) (v := .ref (a 10)) (C := RX5) (T := TX5) (N := 23) hx hb ht i_X5 hown hK hP 0 rfl rfl 14 (by decide) (ht _ wd_550) (fun _ h9 => h9) rfl dX5_alone_63 ?_
            refine lv_bipush (v := (16 : Int32)) hx hb dX5_alone_66 (by decide) ?_
            refine lv_iload_n hx hb dX5_alone_68 rfl (lv_at hl 2 rfl) ?_
            refine lv_imul hx hb dX5_alone_69 ?_
            refine lv_iload_n hx hb dX5_alone_70 rfl (lv_at hl 1 rfl) ?_
            refine lv_iadd hx hb dX5_alone_71 ?_
            obtain ⟨i3, h⟩ := ck_ok h
            refine va_iald hx hb hK hP 10 0 rfl rfl i3 dX5_alone_72 ?_
            refine lv_if_lt (tgt := 80) hx hb dX5_alone_73 (by decide) (fun c4 => ?_) (fun c4 => ?_)
            · replace h := fp c4 h
              refine lv_iconst (v := (0 : Int32)) hx hb dX5_alone_80 (by decide) ?_
              exact w81 M y2 y3 (0 : Int32) _ _ ls h hP hD hS (lv_sub hl [0, 1, 2] rfl)
            · replace h := fn c4 h
              refine lv_iconst (v := (1 : Int32)) hx hb dX5_alone_76 (by decide) ?_
              refine lv_goto (tgt := 81) hx hb dX5_alone_77 (by decide) ?_
              exact w81 M y2 y3 (1 : Int32) _ _ ls h hP hD hS (lv_sub hl [0, 1, 2] rfl)
      intro M y2 H locs ls h hP hD hS hl
      have h : F_X5_aloneB_33 (F_X5_alone_33 n33) M y2 = some res := h
      unfold F_X5_aloneB_33 at h
      refine lv_iload_n hx hb dX5_alone_33 rfl (lv_at hl 1 rfl) ?_
      refine lv_bipush (v := (16 : Int32)) hx hb dX5_alone_34 (by decide) ?_
      refine lv_icmp_ge (tgt := 232) hx hb dX5_alone_36 (by decide) (fun c1 => ?_) (fun c1 => ?_)
      · replace h := fp c1 h
        refine lv_ldc hx hb hown (ht _ wd_691) dX5_alone_232 ?_
        cases h
        exact rt_i hx hb hr hlocks hS hP hK hD dX5_alone_234
      · replace h := fn c1 h
        refine lv_aload_n hx hb dX5_alone_39 rfl (lv_at hl 0 rfl) ?_
        refine va_get (D := D) (ci := 5) (v := .ref (a 10)) (C := RX5) (T := TX5) (N := 23) hx hb ht i_X5 hown hK hP 0 rfl rfl 14 (by decide) (ht _ wd_550) (fun _ h9 => h9) rfl dX5_alone_40 ?_
        refine lv_iload_n hx hb dX5_alone_43 rfl (lv_at hl 1 rfl) ?_
        obtain ⟨i2, h⟩ := ck_ok h
        refine va_iald hx hb hK hP 10 0 rfl rfl i2 dX5_alone_44 ?_
        refine lv_if_lt (tgt := 50) hx hb dX5_alone_45 (by decide) (fun c3 => ?_) (fun c3 => ?_)
        · replace h := fp c3 h
          refine lv_iconst (v := (1 : Int32)) hx hb dX5_alone_50 (by decide) ?_
          refine lv_istore_n (lv' := [(3, .int (1 : Int32)), (0, .ref (a 0)), (2, .int y2)]) hx hb dX5_alone_51 rfl hl (by decide) rfl (fun ls hl => ?_)
          exact w52 FU M y2 (1 : Int32) _ _ ls h hP hD hS (lv_sub hl [1, 2, 0] rfl)
        · replace h := fn c3 h
          refine lv_iload_n hx hb dX5_alone_48 rfl (lv_at hl 1 rfl) ?_
          cases h
          exact rt_i hx hb hr hlocks hS hP hK hD dX5_alone_49
  have w2 : ∀ (n2 : Nat) (M : Mm) (y1 y2 : Int32) (H : Heap) (locs : List Loc) (ls : Array Slot), F_X5_alone_2 n2 M y1 y2 = some res → va_P D classes (wX5 a cI cC cO M) H → va_D A (wX5 a cI cC cO M) → va_S A s.heap H locs → lv_has ls 6 [(0, .ref (a 0)), (1, .int y1), (2, .int y2)] → W p l e ({ frames := 1, cells := 0, slots := 0, locals := 22 } : Room) s m ([.ref (a 0), .int x1] : List Value).toArray below meth c H locs 0 0 (MQ below (QI D cI cC cO A (wX5 a cI cC cO res.2) res.1) ([.ref (a 0), .int x1] : List Value).toArray s 0 0 A) (F0 m 2 ls []) := by
    intro n2
    induction n2 with
    | zero => intro M y1 y2 H locs ls h hP hD hS hl; exact absurd (show (none : Option (Int32 × Mm)) = some res from h) (by simp)
    | succ n2 ih2 =>
      intro M y1 y2 H locs ls h hP hD hS hl
      have h : F_X5_aloneB_2 (F_X5_alone_2 n2) M y1 y2 = some res := h
      unfold F_X5_aloneB_2 at h
      refine lv_iload_n hx hb dX5_alone_2 rfl (lv_at hl 2 rfl) ?_
      refine lv_bipush (v := (96 : Int32)) hx hb dX5_alone_3 (by decide) ?_
      refine lv_icmp_ge (tgt := 21) hx hb dX5_alone_5 (by decide) (fun c1 => ?_) (fun c1 => ?_)
      · replace h := fp c1 h
        refine lv_aload_n hx hb dX5_alone_21 rfl (lv_at hl 0 rfl) ?_
        refine va_get (D := D) (ci := 5) (v := .ref (a 10)) (C := RX5) (T := TX5) (N := 23) hx hb ht i_X5 hown hK hP 0 rfl rfl 14 (by decide) (ht _ wd_550) (fun _ h9 => h9) rfl dX5_alone_22 ?_
        refine lv_bipush (v := (16 : Int32)) hx hb dX5_alone_25 (by decide) ?_
        refine lv_iload_n hx hb dX5_alone_27 rfl (lv_at hl 1 rfl) ?_
        refine lv_imul hx hb dX5_alone_28 ?_
        refine lv_iconst (v := (0 : Int32)) hx hb dX5_alone_29 (by decide) ?_
        obtain ⟨i2, h⟩ := ck_ok h
        refine va_iast hx hb hK hP hD hS 10 0 rfl rfl i2 dX5_alone_30 (fun H locs hP hD hS => ?_)
        obtain ⟨M3, e4, h⟩ := sv_ok h
        have hP : va_P D classes (wX5 a cI cC cO M3) H := by rw [← e4]; exact hP
        have hD : va_D A (wX5 a cI cC cO M3) := by rw [← e4]; exact hD
        refine lv_iconst (v := (0 : Int32)) hx hb dX5_alone_31 (by decide) ?_
        refine lv_istore_n (lv' := [(2, .int (0 : Int32)), (0, .ref (a 0)), (1, .int y1)]) hx hb dX5_alone_32 rfl hl (by decide) rfl (fun ls hl => ?_)
        exact w33 FU M3 (0 : Int32) _ _ ls h hP hD hS (lv_sub hl [1, 0] rfl)
      · replace h := fn c1 h
        refine lv_aload_n hx hb dX5_alone_8 rfl (lv_at hl 0 rfl) ?_
        refine va_get (D := D) (ci := 5) (v := .ref (a 10)) (C := RX5) (T := TX5) (N := 23) hx hb ht i_X5 hown hK hP 0 rfl rfl 14 (by decide) (ht _ wd_550) (fun _ h9 => h9) rfl dX5_alone_9 ?_
        refine lv_iload_n hx hb dX5_alone_12 rfl (lv_at hl 2 rfl) ?_
        refine lv_iconst (v := (-1 : Int32)) hx hb dX5_alone_13 (by decide) ?_
        obtain ⟨i5, h⟩ := ck_ok h
        refine va_iast hx hb hK hP hD hS 10 0 rfl rfl i5 dX5_alone_14 (fun H locs hP hD hS => ?_)
        obtain ⟨M6, e7, h⟩ := sv_ok h
        have hP : va_P D classes (wX5 a cI cC cO M6) H := by rw [← e7]; exact hP
        have hD : va_D A (wX5 a cI cC cO M6) := by rw [← e7]; exact hD
        refine lv_iinc (v := (y2 + 1)) (lv' := [(2, .int (y2 + 1)), (0, .ref (a 0)), (1, .int y1)]) hx hb dX5_alone_15 hl (k := 2) rfl rfl (by decide) rfl (fun ls hl => ?_)
        refine lv_goto (tgt := 2) hx hb dX5_alone_18 (by decide) ?_
        exact ih2 M6 y1 (y2 + 1) _ _ ls h hP hD hS (lv_sub hl [1, 2, 0] rfl)
  unfold F_X5_alone at h
  refine lv_iconst (v := (0 : Int32)) hx hb dX5_alone_0 (by decide) ?_
  refine lv_istore_n (lv' := [(2, .int (0 : Int32)), (0, .ref (a 0)), (1, .int x1)]) hx hb dX5_alone_1 rfl hl (by decide) rfl (fun ls hl => ?_)
  exact w2 FU M x1 (0 : Int32) _ _ ls h hP hD hS (lv_sub hl [1, 2, 0] rfl)
theorem dX5_placeOf_0 : decode cX5_placeOf 0 = .ok (.aload_n 0, 1) := by decide +kernel
theorem dX5_placeOf_1 : decode cX5_placeOf 1 = .ok (.iload_n 1, 1) := by decide +kernel
theorem dX5_placeOf_2 : decode cX5_placeOf 2 = .ok (.invokevirtual 83, 3) := by decide +kernel
theorem dX5_placeOf_5 : decode cX5_placeOf 5 = .ok (.ifCond .eq 12, 3) := by decide +kernel
theorem dX5_placeOf_8 : decode cX5_placeOf 8 = .ok (.iload_n 2, 1) := by decide +kernel
theorem dX5_placeOf_9 : decode cX5_placeOf 9 = .ok (.iconst 0, 1) := by decide +kernel
theorem dX5_placeOf_10 : decode cX5_placeOf 10 = .ok (.iconst 4, 1) := by decide +kernel
theorem dX5_placeOf_11 : decode cX5_placeOf 11 = .ok (.invokestatic 63, 3) := by decide +kernel
theorem dX5_placeOf_14 : decode cX5_placeOf 14 = .ok (.ifCond .ne 6, 3) := by decide +kernel
theorem dX5_placeOf_17 : decode cX5_placeOf 17 = .ok (.ldc 67, 2) := by decide +kernel
theorem dX5_placeOf_19 : decode cX5_placeOf 19 = .ok (.ireturn, 1) := by decide +kernel
theorem dX5_placeOf_20 : decode cX5_placeOf 20 = .ok (.iload_n 2, 1) := by decide +kernel
theorem dX5_placeOf_21 : decode cX5_placeOf 21 = .ok (.tableswitch 58 0 3 #[31, 31, 44, 51], 31) := by decide +kernel
theorem dX5_placeOf_52 : decode cX5_placeOf 52 = .ok (.aload_n 0, 1) := by decide +kernel
theorem dX5_placeOf_53 : decode cX5_placeOf 53 = .ok (.getfield 7, 3) := by decide +kernel
theorem dX5_placeOf_56 : decode cX5_placeOf 56 = .ok (.iconst 2, 1) := by decide +kernel
theorem dX5_placeOf_57 : decode cX5_placeOf 57 = .ok (.iconst 2, 1) := by decide +kernel
theorem dX5_placeOf_58 : decode cX5_placeOf 58 = .ok (.iload_n 1, 1) := by decide +kernel
theorem dX5_placeOf_59 : decode cX5_placeOf 59 = .ok (.imul, 1) := by decide +kernel
theorem dX5_placeOf_60 : decode cX5_placeOf 60 = .ok (.iadd, 1) := by decide +kernel
theorem dX5_placeOf_61 : decode cX5_placeOf 61 = .ok (.iload_n 2, 1) := by decide +kernel
theorem dX5_placeOf_62 : decode cX5_placeOf 62 = .ok (.iadd, 1) := by decide +kernel
theorem dX5_placeOf_63 : decode cX5_placeOf 63 = .ok (.iaload, 1) := by decide +kernel
theorem dX5_placeOf_64 : decode cX5_placeOf 64 = .ok (.ireturn, 1) := by decide +kernel
theorem dX5_placeOf_65 : decode cX5_placeOf 65 = .ok (.aload_n 0, 1) := by decide +kernel
theorem dX5_placeOf_66 : decode cX5_placeOf 66 = .ok (.iload_n 1, 1) := by decide +kernel
theorem dX5_placeOf_67 : decode cX5_placeOf 67 = .ok (.iconst 0, 1) := by decide +kernel
theorem dX5_placeOf_68 : decode cX5_placeOf 68 = .ok (.invokevirtual 105, 3) := by decide +kernel
theorem dX5_placeOf_71 : decode cX5_placeOf 71 = .ok (.ireturn, 1) := by decide +kernel
theorem dX5_placeOf_72 : decode cX5_placeOf 72 = .ok (.aload_n 0, 1) := by decide +kernel
theorem dX5_placeOf_73 : decode cX5_placeOf 73 = .ok (.iload_n 1, 1) := by decide +kernel
theorem dX5_placeOf_74 : decode cX5_placeOf 74 = .ok (.iconst 1, 1) := by decide +kernel
theorem dX5_placeOf_75 : decode cX5_placeOf 75 = .ok (.invokevirtual 105, 3) := by decide +kernel
theorem dX5_placeOf_78 : decode cX5_placeOf 78 = .ok (.ireturn, 1) := by decide +kernel
theorem dX5_placeOf_79 : decode cX5_placeOf 79 = .ok (.aload_n 0, 1) := by decide +kernel
theorem dX5_placeOf_80 : decode cX5_placeOf 80 = .ok (.iload_n 1, 1) := by decide +kernel
theorem dX5_placeOf_81 : decode cX5_placeOf 81 = .ok (.invokevirtual 108, 3) := by decide +kernel
theorem dX5_placeOf_84 : decode cX5_placeOf 84 = .ok (.ireturn, 1) := by decide +kernel
set_option maxHeartbeats 4000000 in
set_option maxRecDepth 100000 in
theorem c_X5_placeOf (l : Launch) (D : va_G) (cI cC cO : ClassId) (a : Nat → Nat) (M : Mm) (x1 x2 : Int32) (res : Int32 × Mm) (sz : Nat) (h : F_X5_placeOf M x1 x2 = some res) : Met l yX5_placeOf (Cond.code yX5_placeOf cX5_placeOf 3 (Option.some Jvm.ClassFile.FieldType.int) :: lw_g) ({ frames := 2, cells := 0, slots := 0, locals := 47 } : Room) (va_Pc [.ref (a 0), .int x1, .int x2] (pS D cI cC cO sz (wX5 a cI cC cO M))) (QI D cI cC cO (va_A (wX5 a cI cC cO M) sz) (wX5 a cI cC cO res.2) res.1) 0 0 (va_A (wX5 a cI cC cO M) sz) := by
  refine Met.ofW (cc := cX5_placeOf) (maxL := 3) (ret := (Option.some Jvm.ClassFile.FieldType.int)) (by decide) rfl ?_
  intro p e s m args below meth c s₁ B hml hv
  obtain ⟨rfl, rfl, hP, hK, hD0, hN⟩ := hv
  have hx := B.exec
  have hb := B.bytes
  have hr := B.returns
  have ht : ∀ w ∈ lw_g, w.before ([.ref (a 0), .int x1, .int x2] : List Value).toArray s = true := fun w hw => atoms_spec (ws := Cond.code yX5_placeOf cX5_placeOf 3 (Option.some Jvm.ClassFile.FieldType.int) :: lw_g) B.pre w (List.mem_cons_of_mem _ hw)
  have hown : s.vm.findClass RX5 = some m.cls := findClass_of_methodNamed B.named
  have hlocks := B.notSynchronized
  have hD := hD0.self (sz := s.heap.size)
  generalize hAe : va_A (wX5 a cI cC cO M) s.heap.size = A at hD ⊢
  have hA : ∀ q : Nat, s.heap.size ≤ q → A q := fun q hq => by rw [← hAe]; exact Or.inr hq
  have hS : va_S A s.heap s.heap [] := va_S.rf
  have hl := lv_entry ([.ref (a 0), .int x1, .int x2]) (n := 3) (Nat.le_of_ble_eq_true rfl)
  rw [lg_entry_eq]
  generalize (lg_sl ([.ref (a 0), .int x1, .int x2]) ++ List.replicate (3 - (lg_sl ([.ref (a 0), .int x1, .int x2])).length) Slot.unset).toArray = ls at hl ⊢
  have hl : lv_has ls 3 [(0, .ref (a 0)), (1, .int x1), (2, .int x2)] := hl
  have w52 : ∀ (M : Mm) (y1 y2 : Int32) (H : Heap) (locs : List Loc) (ls : Array Slot), F_X5_placeOf_52 M y1 y2 = some res → va_P D classes (wX5 a cI cC cO M) H → va_D A (wX5 a cI cC cO M) → va_S A s.heap H locs → lv_has ls 3 [(0, .ref (a 0)), (1, .int y1), (2, .int y2)] → W p l e ({ frames := 2, cells := 0, slots := 0, locals := 47 } : Room) s m ([.ref (a 0), .int x1, .int x2] : List Value).toArray below meth c H locs 0 0 (MQ below (QI D cI cC cO A (wX5 a cI cC cO res.2) res.1) ([.ref (a 0), .int x1, .int x2] : List Value).toArray s 0 0 A) (F0 m 52 ls []) := by
    intro M y1 y2 H locs ls h hP hD hS hl
    unfold F_X5_placeOf_52 at h
    refine lv_aload_n hx hb dX5_placeOf_52 rfl (lv_at hl 0 rfl) ?_
    refine va_get (D := D) (ci := 5) (v := .ref (a 1)) (C := RX5) (T := TX5) (N := 23) hx hb ht i_X5 hown hK hP 0 rfl rfl 0 (by decide) (ht _ wd_536) (fun _ h9 => h9) rfl dX5_placeOf_53 ?_
    refine lv_iconst (v := (2 : Int32)) hx hb dX5_placeOf_56 (by decide) ?_
    refine lv_iconst (v := (2 : Int32)) hx hb dX5_placeOf_57 (by decide) ?_
    refine lv_iload_n hx hb dX5_placeOf_58 rfl (lv_at hl 1 rfl) ?_
    refine lv_imul hx hb dX5_placeOf_59 ?_
    refine lv_iadd hx hb dX5_placeOf_60 ?_
    refine lv_iload_n hx hb dX5_placeOf_61 rfl (lv_at hl 2 rfl) ?_
    refine lv_iadd hx hb dX5_placeOf_62 ?_
    obtain ⟨i1, h⟩ := ck_ok h
    refine va_iald hx hb hK hP 1 0 rfl rfl i1 dX5_placeOf_63 ?_
    cases h
    exact rt_i hx hb hr hlocks hS hP hK hD dX5_placeOf_64
  unfold F_X5_placeOf at h
  refine lv_aload_n hx hb dX5_placeOf_0 rfl (lv_at hl 0 rfl) ?_
  refine lv_iload_n hx hb dX5_placeOf_1 rfl (lv_at hl 1 rfl) ?_
  obtain ⟨u1, e2, h⟩ := b1_ok h
  refine cl_Vi (ws' := (wX5 a cI cC cO M)) ⟨hx, hb, hml, hown, ht⟩ (c_X5_isPlace l D cI cC cO a M x1 _ _ e2) (cwv 1 ht wd_634 wd_6 wd_631 wd_633 ws_23 (by decide +kernel) rfl rfl ⟨Nat.le_of_ble_eq_true rfl, Nat.le_of_ble_eq_true rfl⟩) 5 0 rfl rfl rfl hK hP hD hS hA hN [0, 1, 2, 3, 4, 5, 6, 7, 8, 9, 10, 11, 12] [] [0, 1, 2, 3, 4, 5, 6, 7, 8, 9, 10, 11, 12] (by decide) rfl rfl (by decide) (by decide) rfl (by decide) rfl hl.1 rfl (Nat.le_of_ble_eq_true rfl) dX5_placeOf_2 ⟨Nat.le_of_ble_eq_true rfl, Nat.le_of_ble_eq_true rfl⟩ (fun H locs hP hD hS => ?_)
  refine lv_if_eq (tgt := 17) hx hb dX5_placeOf_5 (by decide) (fun c3 => ?_) (fun c3 => ?_)
  · replace h := fp c3 h
    refine lv_ldc hx hb hown (ht _ wd_613) dX5_placeOf_17 ?_
    cases h
    exact rt_i hx hb hr hlocks hS hP hK hD dX5_placeOf_19
  · replace h := fn c3 h
    refine lv_iload_n hx hb dX5_placeOf_8 rfl (lv_at hl 2 rfl) ?_
    refine lv_iconst (v := (0 : Int32)) hx hb dX5_placeOf_9 (by decide) ?_
    refine lv_iconst (v := (4 : Int32)) hx hb dX5_placeOf_10 (by decide) ?_
    obtain ⟨u4, e5, h⟩ := b1_ok h
    refine cl_Si (ws' := (wX5 a cI cC cO M)) ⟨hx, hb, hml, hown, ht⟩ (c_X5_in l D cI cC cO x2 (0 : Int32) (4 : Int32) _ _ e5) (cwst 3 ht wd_612 wd_6 wd_610 wd_611 (by decide +kernel) rfl rfl ⟨Nat.le_of_ble_eq_true rfl, Nat.le_of_ble_eq_true rfl⟩) hK hP hD hS hA hN [] [0, 1, 2, 3, 4, 5, 6, 7, 8, 9, 10, 11, 12] [0, 1, 2, 3, 4, 5, 6, 7, 8, 9, 10, 11, 12] (by decide) rfl rfl (by decide) (by decide) rfl (by decide) rfl hl.1 rfl (Nat.le_of_ble_eq_true rfl) dX5_placeOf_11 ⟨Nat.le_of_ble_eq_true rfl, Nat.le_of_ble_eq_true rfl⟩ (fun H locs hP hD hS => ?_)
    refine lv_if_ne (tgt := 20) hx hb dX5_placeOf_14 (by decide) (fun c6 => ?_) (fun c6 => ?_)
    · replace h := fn c6 h
      refine lv_iload_n hx hb dX5_placeOf_20 rfl (lv_at hl 2 rfl) ?_
      by_cases c7 : x2 = (0 : Int32)
      · replace h := fp c7 h
        refine lv_tableIn (off := 31) (tgt := 52) hx hb dX5_placeOf_21 (by rw [c7]; decide) (by rw [c7]; decide) (by rw [c7]; rfl) (by decide) ?_
        exact w52 M x1 x2 _ _ ls h hP hD hS (lv_sub hl [0, 1, 2] rfl)
      · replace h := fn c7 h
        by_cases c8 : x2 = (1 : Int32)
        · replace h := fp c8 h
          refine lv_tableIn (off := 31) (tgt := 52) hx hb dX5_placeOf_21 (by rw [c8]; decide) (by rw [c8]; decide) (by rw [c8]; rfl) (by decide) ?_
          exact w52 M x1 x2 _ _ ls h hP hD hS (lv_sub hl [0, 1, 2] rfl)
        · replace h := fn c8 h
          by_cases c9 : x2 = (2 : Int32)
          · replace h := fp c9 h
            refine lv_tableIn (off := 44) (tgt := 65) hx hb dX5_placeOf_21 (by rw [c9]; decide) (by rw [c9]; decide) (by rw [c9]; rfl) (by decide) ?_
            refine lv_aload_n hx hb dX5_placeOf_65 rfl (lv_at hl 0 rfl) ?_
            refine lv_iload_n hx hb dX5_placeOf_66 rfl (lv_at hl 1 rfl) ?_
            refine lv_iconst (v := (0 : Int32)) hx hb dX5_placeOf_67 (by decide) ?_
            obtain ⟨u10, e11, h⟩ := b1_ok h
            refine cl_Vi (ws' := (wX5 a cI cC cO M)) ⟨hx, hb, hml, hown, ht⟩ (c_X5_pipesOf l D cI cC cO a M x1 (0 : Int32) _ _ e11) (cwv 2 ht wd_686 wd_6 wd_683 wd_685 ws_29 (by decide +kernel) rfl rfl ⟨Nat.le_of_ble_eq_true rfl, Nat.le_of_ble_eq_true rfl⟩) 5 0 rfl rfl rfl hK hP hD hS hA hN [0, 1, 2, 3, 4, 5, 6, 7, 8, 9, 10, 11, 12] [] [0, 1, 2, 3, 4, 5, 6, 7, 8, 9, 10, 11, 12] (by decide) rfl rfl (by decide) (by decide) rfl (by decide) rfl hl.1 rfl (Nat.le_of_ble_eq_true rfl) dX5_placeOf_68 ⟨Nat.le_of_ble_eq_true rfl, Nat.le_of_ble_eq_true rfl⟩ (fun H locs hP hD hS => ?_)
            cases h
            exact rt_i hx hb hr hlocks hS hP hK hD dX5_placeOf_71
          · replace h := fn c9 h
            by_cases c12 : x2 = (3 : Int32)
            · replace h := fp c12 h
              refine lv_tableIn (off := 51) (tgt := 72) hx hb dX5_placeOf_21 (by rw [c12]; decide) (by rw [c12]; decide) (by rw [c12]; rfl) (by decide) ?_
              refine lv_aload_n hx hb dX5_placeOf_72 rfl (lv_at hl 0 rfl) ?_
              refine lv_iload_n hx hb dX5_placeOf_73 rfl (lv_at hl 1 rfl) ?_
              refine lv_iconst (v := (1 : Int32)) hx hb dX5_placeOf_74 (by decide) ?_
              obtain ⟨u13, e14, h⟩ := b1_ok h
              refine cl_Vi (ws' := (wX5 a cI cC cO M)) ⟨hx, hb, hml, hown, ht⟩ (c_X5_pipesOf l D cI cC cO a M x1 (1 : Int32) _ _ e14) (cwv 2 ht wd_686 wd_6 wd_683 wd_685 ws_29 (by decide +kernel) rfl rfl ⟨Nat.le_of_ble_eq_true rfl, Nat.le_of_ble_eq_true rfl⟩) 5 0 rfl rfl rfl hK hP hD hS hA hN [0, 1, 2, 3, 4, 5, 6, 7, 8, 9, 10, 11, 12] [] [0, 1, 2, 3, 4, 5, 6, 7, 8, 9, 10, 11, 12] (by decide) rfl rfl (by decide) (by decide) rfl (by decide) rfl hl.1 rfl (Nat.le_of_ble_eq_true rfl) dX5_placeOf_75 ⟨Nat.le_of_ble_eq_true rfl, Nat.le_of_ble_eq_true rfl⟩ (fun H locs hP hD hS => ?_)
              cases h
              exact rt_i hx hb hr hlocks hS hP hK hD dX5_placeOf_78
            · replace h := fn c12 h
              refine lv_tableOut (tgt := 79) hx hb dX5_placeOf_21 (sw_out (x := x2) (n := 4) (by decide) (fun k hk => match k, hk with | 0, _ => c7 | 1, _ => c8 | 2, _ => c9 | 3, _ => c12 | k + 4, hk => absurd hk (by omega))) (by decide) ?_
              refine lv_aload_n hx hb dX5_placeOf_79 rfl (lv_at hl 0 rfl) ?_
              refine lv_iload_n hx hb dX5_placeOf_80 rfl (lv_at hl 1 rfl) ?_
              obtain ⟨u15, M16, e17, h⟩ := b2_ok h
              refine cl_Vi (ws' := (wX5 a cI cC cO M16)) ⟨hx, hb, hml, hown, ht⟩ (c_X5_alone l D cI cC cO a M x1 _ _ e17) (cwv 1 ht wd_690 wd_6 wd_687 wd_689 ws_30 (by decide +kernel) rfl rfl ⟨Nat.le_of_ble_eq_true rfl, Nat.le_of_ble_eq_true rfl⟩) 5 0 rfl rfl rfl hK hP hD hS hA hN [0, 1, 2, 3, 4, 5, 6, 7, 8, 9, 10, 11, 12] [] [0, 1, 2, 3, 4, 5, 6, 7, 8, 9, 10, 11, 12] (by decide) rfl rfl (by decide) (by decide) rfl (by decide) rfl hl.1 rfl (Nat.le_of_ble_eq_true rfl) dX5_placeOf_81 ⟨Nat.le_of_ble_eq_true rfl, Nat.le_of_ble_eq_true rfl⟩ (fun H locs hP hD hS => ?_)
              cases h
              exact rt_i hx hb hr hlocks hS hP hK hD dX5_placeOf_84
    · replace h := fp c6 h
      refine lv_ldc hx hb hown (ht _ wd_613) dX5_placeOf_17 ?_
      cases h
      exact rt_i hx hb hr hlocks hS hP hK hD dX5_placeOf_19
theorem dX5_unitsOf_0 : decode cX5_unitsOf 0 = .ok (.aload_n 0, 1) := by decide +kernel
theorem dX5_unitsOf_1 : decode cX5_unitsOf 1 = .ok (.getfield 60, 3) := by decide +kernel
theorem dX5_unitsOf_4 : decode cX5_unitsOf 4 = .ok (.ifCond .lt 18, 3) := by decide +kernel
theorem dX5_unitsOf_7 : decode cX5_unitsOf 7 = .ok (.iload_n 1, 1) := by decide +kernel
theorem dX5_unitsOf_8 : decode cX5_unitsOf 8 = .ok (.aload_n 0, 1) := by decide +kernel
theorem dX5_unitsOf_9 : decode cX5_unitsOf 9 = .ok (.getfield 60, 3) := by decide +kernel
theorem dX5_unitsOf_12 : decode cX5_unitsOf 12 = .ok (.if_icmp .ne 8, 3) := by decide +kernel
theorem dX5_unitsOf_15 : decode cX5_unitsOf 15 = .ok (.ldc 111, 2) := by decide +kernel
theorem dX5_unitsOf_17 : decode cX5_unitsOf 17 = .ok (.goto 4, 3) := by decide +kernel
theorem dX5_unitsOf_20 : decode cX5_unitsOf 20 = .ok (.iconst 0, 1) := by decide +kernel
theorem dX5_unitsOf_21 : decode cX5_unitsOf 21 = .ok (.ireturn, 1) := by decide +kernel
theorem dX5_unitsOf_22 : decode cX5_unitsOf 22 = .ok (.aload_n 0, 1) := by decide +kernel
theorem dX5_unitsOf_23 : decode cX5_unitsOf 23 = .ok (.getfield 7, 3) := by decide +kernel
theorem dX5_unitsOf_26 : decode cX5_unitsOf 26 = .ok (.iconst 2, 1) := by decide +kernel
theorem dX5_unitsOf_27 : decode cX5_unitsOf 27 = .ok (.iconst 2, 1) := by decide +kernel
theorem dX5_unitsOf_28 : decode cX5_unitsOf 28 = .ok (.iload_n 1, 1) := by decide +kernel
theorem dX5_unitsOf_29 : decode cX5_unitsOf 29 = .ok (.imul, 1) := by decide +kernel
theorem dX5_unitsOf_30 : decode cX5_unitsOf 30 = .ok (.iadd, 1) := by decide +kernel
theorem dX5_unitsOf_31 : decode cX5_unitsOf 31 = .ok (.iaload, 1) := by decide +kernel
theorem dX5_unitsOf_32 : decode cX5_unitsOf 32 = .ok (.iload_n 1, 1) := by decide +kernel
theorem dX5_unitsOf_33 : decode cX5_unitsOf 33 = .ok (.aload_n 0, 1) := by decide +kernel
theorem dX5_unitsOf_34 : decode cX5_unitsOf 34 = .ok (.getfield 57, 3) := by decide +kernel
theorem dX5_unitsOf_37 : decode cX5_unitsOf 37 = .ok (.if_icmp .ne 7, 3) := by decide +kernel
theorem dX5_unitsOf_40 : decode cX5_unitsOf 40 = .ok (.iconst 1, 1) := by decide +kernel
theorem dX5_unitsOf_41 : decode cX5_unitsOf 41 = .ok (.goto 4, 3) := by decide +kernel
theorem dX5_unitsOf_44 : decode cX5_unitsOf 44 = .ok (.iconst 0, 1) := by decide +kernel
theorem dX5_unitsOf_45 : decode cX5_unitsOf 45 = .ok (.iadd, 1) := by decide +kernel
theorem dX5_unitsOf_46 : decode cX5_unitsOf 46 = .ok (.ireturn, 1) := by decide +kernel
set_option maxHeartbeats 4000000 in
set_option maxRecDepth 100000 in
theorem c_X5_unitsOf (l : Launch) (D : va_G) (cI cC cO : ClassId) (a : Nat → Nat) (M : Mm) (x1 : Int32) (res : Int32) (sz : Nat) (h : F_X5_unitsOf M x1 = some res) : Met l yX5_unitsOf (Cond.code yX5_unitsOf cX5_unitsOf 2 (Option.some Jvm.ClassFile.FieldType.int) :: lw_g) ({ frames := 0, cells := 0, slots := 0, locals := 0 } : Room) (va_Pc [.ref (a 0), .int x1] (pS D cI cC cO sz (wX5 a cI cC cO M))) (QI D cI cC cO (va_A (wX5 a cI cC cO M) sz) (wX5 a cI cC cO M) res) 0 0 (va_A (wX5 a cI cC cO M) sz) := by
  refine Met.ofW (cc := cX5_unitsOf) (maxL := 2) (ret := (Option.some Jvm.ClassFile.FieldType.int)) (by decide) rfl ?_
  intro p e s m args below meth c s₁ B hml hv
  obtain ⟨rfl, rfl, hP, hK, hD0, hN⟩ := hv
  have hx := B.exec
  have hb := B.bytes
  have hr := B.returns
  have ht : ∀ w ∈ lw_g, w.before ([.ref (a 0), .int x1] : List Value).toArray s = true := fun w hw => atoms_spec (ws := Cond.code yX5_unitsOf cX5_unitsOf 2 (Option.some Jvm.ClassFile.FieldType.int) :: lw_g) B.pre w (List.mem_cons_of_mem _ hw)
  have hown : s.vm.findClass RX5 = some m.cls := findClass_of_methodNamed B.named
  have hlocks := B.notSynchronized
  have hD := hD0.self (sz := s.heap.size)
  generalize hAe : va_A (wX5 a cI cC cO M) s.heap.size = A at hD ⊢
  have hA : ∀ q : Nat, s.heap.size ≤ q → A q := fun q hq => by rw [← hAe]; exact Or.inr hq
  have hS : va_S A s.heap s.heap [] := va_S.rf
  have hl := lv_entry ([.ref (a 0), .int x1]) (n := 2) (Nat.le_of_ble_eq_true rfl)
  rw [lg_entry_eq]
  generalize (lg_sl ([.ref (a 0), .int x1]) ++ List.replicate (2 - (lg_sl ([.ref (a 0), .int x1])).length) Slot.unset).toArray = ls at hl ⊢
  have hl : lv_has ls 2 [(0, .ref (a 0)), (1, .int x1)] := hl
  unfold F_X5_unitsOf at h
  refine lv_aload_n hx hb dX5_unitsOf_0 rfl (lv_at hl 0 rfl) ?_
  refine va_get (D := D) (ci := 5) (v := .int (M 12 10)) (C := RX5) (T := TX5) (N := 23) hx hb ht i_X5 hown hK hP 0 rfl rfl 22 (by decide) (ht _ wd_558) (fun _ h9 => h9) rfl dX5_unitsOf_1 ?_
  refine lv_if_lt (tgt := 22) hx hb dX5_unitsOf_4 (by decide) (fun c1 => ?_) (fun c1 => ?_)
  · replace h := fp c1 h
    refine lv_aload_n hx hb dX5_unitsOf_22 rfl (lv_at hl 0 rfl) ?_
    refine va_get (D := D) (ci := 5) (v := .ref (a 1)) (C := RX5) (T := TX5) (N := 23) hx hb ht i_X5 hown hK hP 0 rfl rfl 0 (by decide) (ht _ wd_536) (fun _ h9 => h9) rfl dX5_unitsOf_23 ?_
    refine lv_iconst (v := (2 : Int32)) hx hb dX5_unitsOf_26 (by decide) ?_
    refine lv_iconst (v := (2 : Int32)) hx hb dX5_unitsOf_27 (by decide) ?_
    refine lv_iload_n hx hb dX5_unitsOf_28 rfl (lv_at hl 1 rfl) ?_
    refine lv_imul hx hb dX5_unitsOf_29 ?_
    refine lv_iadd hx hb dX5_unitsOf_30 ?_
    obtain ⟨i2, h⟩ := ck_ok h
    refine va_iald hx hb hK hP 1 0 rfl rfl i2 dX5_unitsOf_31 ?_
    refine lv_iload_n hx hb dX5_unitsOf_32 rfl (lv_at hl 1 rfl) ?_
    refine lv_aload_n hx hb dX5_unitsOf_33 rfl (lv_at hl 0 rfl) ?_
    refine va_get (D := D) (ci := 5) (v := .int (M 12 9)) (C := RX5) (T := TX5) (N := 23) hx hb ht i_X5 hown hK hP 0 rfl rfl 21 (by decide) (ht _ wd_557) (fun _ h9 => h9) rfl dX5_unitsOf_34 ?_
    refine lv_icmp_ne (tgt := 44) hx hb dX5_unitsOf_37 (by decide) (fun c3 => ?_) (fun c3 => ?_)
    · replace h := fn c3 h
      refine lv_iconst (v := (0 : Int32)) hx hb dX5_unitsOf_44 (by decide) ?_
      refine lv_iadd hx hb dX5_unitsOf_45 ?_
      cases h
      exact rt_i hx hb hr hlocks hS hP hK hD dX5_unitsOf_46
    · replace h := fp c3 h
      refine lv_iconst (v := (1 : Int32)) hx hb dX5_unitsOf_40 (by decide) ?_
      refine lv_goto (tgt := 45) hx hb dX5_unitsOf_41 (by decide) ?_
      refine lv_iadd hx hb dX5_unitsOf_45 ?_
      cases h
      exact rt_i hx hb hr hlocks hS hP hK hD dX5_unitsOf_46
  · replace h := fn c1 h
    refine lv_iload_n hx hb dX5_unitsOf_7 rfl (lv_at hl 1 rfl) ?_
    refine lv_aload_n hx hb dX5_unitsOf_8 rfl (lv_at hl 0 rfl) ?_
    refine va_get (D := D) (ci := 5) (v := .int (M 12 10)) (C := RX5) (T := TX5) (N := 23) hx hb ht i_X5 hown hK hP 0 rfl rfl 22 (by decide) (ht _ wd_558) (fun _ h9 => h9) rfl dX5_unitsOf_9 ?_
    refine lv_icmp_ne (tgt := 20) hx hb dX5_unitsOf_12 (by decide) (fun c4 => ?_) (fun c4 => ?_)
    · replace h := fn c4 h
      refine lv_iconst (v := (0 : Int32)) hx hb dX5_unitsOf_20 (by decide) ?_
      cases h
      exact rt_i hx hb hr hlocks hS hP hK hD dX5_unitsOf_21
    · replace h := fp c4 h
      refine lv_ldc hx hb hown (ht _ wd_708) dX5_unitsOf_15 ?_
      refine lv_goto (tgt := 21) hx hb dX5_unitsOf_17 (by decide) ?_
      cases h
      exact rt_i hx hb hr hlocks hS hP hK hD dX5_unitsOf_21
theorem dX5_roomOf_0 : decode cX5_roomOf 0 = .ok (.iload_n 1, 1) := by decide +kernel
theorem dX5_roomOf_1 : decode cX5_roomOf 1 = .ok (.ifCond .eq 11, 3) := by decide +kernel
theorem dX5_roomOf_4 : decode cX5_roomOf 4 = .ok (.iload_n 1, 1) := by decide +kernel
theorem dX5_roomOf_5 : decode cX5_roomOf 5 = .ok (.aload_n 0, 1) := by decide +kernel
theorem dX5_roomOf_6 : decode cX5_roomOf 6 = .ok (.getfield 60, 3) := by decide +kernel
theorem dX5_roomOf_9 : decode cX5_roomOf 9 = .ok (.if_icmp .ne 6, 3) := by decide +kernel
theorem dX5_roomOf_12 : decode cX5_roomOf 12 = .ok (.ldc 111, 2) := by decide +kernel
theorem dX5_roomOf_14 : decode cX5_roomOf 14 = .ok (.ireturn, 1) := by decide +kernel
theorem dX5_roomOf_15 : decode cX5_roomOf 15 = .ok (.aload_n 0, 1) := by decide +kernel
theorem dX5_roomOf_16 : decode cX5_roomOf 16 = .ok (.getfield 60, 3) := by decide +kernel
theorem dX5_roomOf_19 : decode cX5_roomOf 19 = .ok (.ifCond .lt 7, 3) := by decide +kernel
theorem dX5_roomOf_22 : decode cX5_roomOf 22 = .ok (.iconst 0, 1) := by decide +kernel
theorem dX5_roomOf_23 : decode cX5_roomOf 23 = .ok (.goto 15, 3) := by decide +kernel
theorem dX5_roomOf_26 : decode cX5_roomOf 26 = .ok (.aload_n 0, 1) := by decide +kernel
theorem dX5_roomOf_27 : decode cX5_roomOf 27 = .ok (.getfield 7, 3) := by decide +kernel
theorem dX5_roomOf_30 : decode cX5_roomOf 30 = .ok (.iconst 2, 1) := by decide +kernel
theorem dX5_roomOf_31 : decode cX5_roomOf 31 = .ok (.iconst 2, 1) := by decide +kernel
theorem dX5_roomOf_32 : decode cX5_roomOf 32 = .ok (.iload_n 1, 1) := by decide +kernel
theorem dX5_roomOf_33 : decode cX5_roomOf 33 = .ok (.imul, 1) := by decide +kernel
theorem dX5_roomOf_34 : decode cX5_roomOf 34 = .ok (.iadd, 1) := by decide +kernel
theorem dX5_roomOf_35 : decode cX5_roomOf 35 = .ok (.iconst 1, 1) := by decide +kernel
theorem dX5_roomOf_36 : decode cX5_roomOf 36 = .ok (.iadd, 1) := by decide +kernel
theorem dX5_roomOf_37 : decode cX5_roomOf 37 = .ok (.iaload, 1) := by decide +kernel
theorem dX5_roomOf_38 : decode cX5_roomOf 38 = .ok (.ireturn, 1) := by decide +kernel
set_option maxHeartbeats 4000000 in
set_option maxRecDepth 100000 in
theorem c_X5_roomOf (l : Launch) (D : va_G) (cI cC cO : ClassId) (a : Nat → Nat) (M : Mm) (x1 : Int32) (res : Int32) (sz : Nat) (h : F_X5_roomOf M x1 = some res) : Met l yX5_roomOf (Cond.code yX5_roomOf cX5_roomOf 2 (Option.some Jvm.ClassFile.FieldType.int) :: lw_g) ({ frames := 0, cells := 0, slots := 0, locals := 0 } : Room) (va_Pc [.ref (a 0), .int x1] (pS D cI cC cO sz (wX5 a cI cC cO M))) (QI D cI cC cO (va_A (wX5 a cI cC cO M) sz) (wX5 a cI cC cO M) res) 0 0 (va_A (wX5 a cI cC cO M) sz) := by
  refine Met.ofW (cc := cX5_roomOf) (maxL := 2) (ret := (Option.some Jvm.ClassFile.FieldType.int)) (by decide) rfl ?_
  intro p e s m args below meth c s₁ B hml hv
  obtain ⟨rfl, rfl, hP, hK, hD0, hN⟩ := hv
  have hx := B.exec
  have hb := B.bytes
  have hr := B.returns
  have ht : ∀ w ∈ lw_g, w.before ([.ref (a 0), .int x1] : List Value).toArray s = true := fun w hw => atoms_spec (ws := Cond.code yX5_roomOf cX5_roomOf 2 (Option.some Jvm.ClassFile.FieldType.int) :: lw_g) B.pre w (List.mem_cons_of_mem _ hw)
  have hown : s.vm.findClass RX5 = some m.cls := findClass_of_methodNamed B.named
  have hlocks := B.notSynchronized
  have hD := hD0.self (sz := s.heap.size)
  generalize hAe : va_A (wX5 a cI cC cO M) s.heap.size = A at hD ⊢
  have hA : ∀ q : Nat, s.heap.size ≤ q → A q := fun q hq => by rw [← hAe]; exact Or.inr hq
  have hS : va_S A s.heap s.heap [] := va_S.rf
  have hl := lv_entry ([.ref (a 0), .int x1]) (n := 2) (Nat.le_of_ble_eq_true rfl)
  rw [lg_entry_eq]
  generalize (lg_sl ([.ref (a 0), .int x1]) ++ List.replicate (2 - (lg_sl ([.ref (a 0), .int x1])).length) Slot.unset).toArray = ls at hl ⊢
  have hl : lv_has ls 2 [(0, .ref (a 0)), (1, .int x1)] := hl
  unfold F_X5_roomOf at h
  refine lv_iload_n hx hb dX5_roomOf_0 rfl (lv_at hl 1 rfl) ?_
  refine lv_if_eq (tgt := 12) hx hb dX5_roomOf_1 (by decide) (fun c1 => ?_) (fun c1 => ?_)
  · replace h := fp c1 h
    refine lv_ldc hx hb hown (ht _ wd_708) dX5_roomOf_12 ?_
    cases h
    exact rt_i hx hb hr hlocks hS hP hK hD dX5_roomOf_14
  · replace h := fn c1 h
    refine lv_iload_n hx hb dX5_roomOf_4 rfl (lv_at hl 1 rfl) ?_
    refine lv_aload_n hx hb dX5_roomOf_5 rfl (lv_at hl 0 rfl) ?_
    refine va_get (D := D) (ci := 5) (v := .int (M 12 10)) (C := RX5) (T := TX5) (N := 23) hx hb ht i_X5 hown hK hP 0 rfl rfl 22 (by decide) (ht _ wd_558) (fun _ h9 => h9) rfl dX5_roomOf_6 ?_
    refine lv_icmp_ne (tgt := 15) hx hb dX5_roomOf_9 (by decide) (fun c2 => ?_) (fun c2 => ?_)
    · replace h := fn c2 h
      refine lv_aload_n hx hb dX5_roomOf_15 rfl (lv_at hl 0 rfl) ?_
      refine va_get (D := D) (ci := 5) (v := .int (M 12 10)) (C := RX5) (T := TX5) (N := 23) hx hb ht i_X5 hown hK hP 0 rfl rfl 22 (by decide) (ht _ wd_558) (fun _ h9 => h9) rfl dX5_roomOf_16 ?_
      refine lv_if_lt (tgt := 26) hx hb dX5_roomOf_19 (by decide) (fun c3 => ?_) (fun c3 => ?_)
      · replace h := fp c3 h
        refine lv_aload_n hx hb dX5_roomOf_26 rfl (lv_at hl 0 rfl) ?_
        refine va_get (D := D) (ci := 5) (v := .ref (a 1)) (C := RX5) (T := TX5) (N := 23) hx hb ht i_X5 hown hK hP 0 rfl rfl 0 (by decide) (ht _ wd_536) (fun _ h9 => h9) rfl dX5_roomOf_27 ?_
        refine lv_iconst (v := (2 : Int32)) hx hb dX5_roomOf_30 (by decide) ?_
        refine lv_iconst (v := (2 : Int32)) hx hb dX5_roomOf_31 (by decide) ?_
        refine lv_iload_n hx hb dX5_roomOf_32 rfl (lv_at hl 1 rfl) ?_
        refine lv_imul hx hb dX5_roomOf_33 ?_
        refine lv_iadd hx hb dX5_roomOf_34 ?_
        refine lv_iconst (v := (1 : Int32)) hx hb dX5_roomOf_35 (by decide) ?_
        refine lv_iadd hx hb dX5_roomOf_36 ?_
        obtain ⟨i4, h⟩ := ck_ok h
        refine va_iald hx hb hK hP 1 0 rfl rfl i4 dX5_roomOf_37 ?_
        cases h
        exact rt_i hx hb hr hlocks hS hP hK hD dX5_roomOf_38
      · replace h := fn c3 h
        refine lv_iconst (v := (0 : Int32)) hx hb dX5_roomOf_22 (by decide) ?_
        refine lv_goto (tgt := 38) hx hb dX5_roomOf_23 (by decide) ?_
        cases h
        exact rt_i hx hb hr hlocks hS hP hK hD dX5_roomOf_38
    · replace h := fp c2 h
      refine lv_ldc hx hb hown (ht _ wd_708) dX5_roomOf_12 ?_
      cases h
      exact rt_i hx hb hr hlocks hS hP hK hD dX5_roomOf_14
