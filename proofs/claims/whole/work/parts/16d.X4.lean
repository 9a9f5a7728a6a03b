def F_X4_init : Option (Mm × Mm × (Nat → Nat) × (Nat → Mm) × Mm × Mm × Mm × Mm) := (b1 F_X1_init fun r2 => (b1 F_X0_init fun r4 => (b1 F_X3_init fun r6 => (b1 F_X2_init fun r8 => some (r2, r4.1, r4.2.1, r4.2.2, r6.1, r6.2, r8.1, r8.2)))))
theorem dX4_init_0 : decode cX4_init 0 = .ok (.aload_n 0, 1) := by decide +kernel
theorem dX4_init_1 : decode cX4_init 1 = .ok (.invokespecial 1, 3) := by decide +kernel
theorem dX4_init_4 : decode cX4_init 4 = .ok (.aload_n 0, 1) := by decide +kernel
theorem dX4_init_5 : decode cX4_init 5 = .ok (.new 7, 3) := by decide +kernel
theorem dX4_init_8 : decode cX4_init 8 = .ok (.dup, 1) := by decide +kernel
theorem dX4_init_9 : decode cX4_init 9 = .ok (.invokespecial 9, 3) := by decide +kernel
theorem dX4_init_12 : decode cX4_init 12 = .ok (.putfield 10, 3) := by decide +kernel
theorem dX4_init_15 : decode cX4_init 15 = .ok (.aload_n 0, 1) := by decide +kernel
theorem dX4_init_16 : decode cX4_init 16 = .ok (.new 16, 3) := by decide +kernel
theorem dX4_init_19 : decode cX4_init 19 = .ok (.dup, 1) := by decide +kernel
theorem dX4_init_20 : decode cX4_init 20 = .ok (.invokespecial 18, 3) := by decide +kernel
theorem dX4_init_23 : decode cX4_init 23 = .ok (.putfield 19, 3) := by decide +kernel
theorem dX4_init_26 : decode cX4_init 26 = .ok (.aload_n 0, 1) := by decide +kernel
theorem dX4_init_27 : decode cX4_init 27 = .ok (.new 23, 3) := by decide +kernel
theorem dX4_init_30 : decode cX4_init 30 = .ok (.dup, 1) := by decide +kernel
theorem dX4_init_31 : decode cX4_init 31 = .ok (.invokespecial 25, 3) := by decide +kernel
theorem dX4_init_34 : decode cX4_init 34 = .ok (.putfield 26, 3) := by decide +kernel
theorem dX4_init_37 : decode cX4_init 37 = .ok (.aload_n 0, 1) := by decide +kernel
theorem dX4_init_38 : decode cX4_init 38 = .ok (.new 30, 3) := by decide +kernel
theorem dX4_init_41 : decode cX4_init 41 = .ok (.dup, 1) := by decide +kernel
theorem dX4_init_42 : decode cX4_init 42 = .ok (.invokespecial 32, 3) := by decide +kernel
theorem dX4_init_45 : decode cX4_init 45 = .ok (.putfield 33, 3) := by decide +kernel
theorem dX4_init_48 : decode cX4_init 48 = .ok (.return_, 1) := by decide +kernel
set_option maxHeartbeats 4000000 in
set_option maxRecDepth 100000 in
theorem c_X4_init (l : Launch) (D : va_G) (cI cC cO : ClassId) (h0 : Nat) (res : Mm × Mm × (Nat → Nat) × (Nat → Mm) × Mm × Mm × Mm × Mm) (sz : Nat) (h : F_X4_init = some res) : Met l yX4_init (Cond.code yX4_init cX4_init 1 (Option.none : Option Jvm.ClassFile.FieldType) :: lw_g) ({ frames := 3, cells := 38, slots := 1437, locals := 53 } : Room) (va_Pc [.ref h0] (pT D cI cC cO sz [(h0, .inr (4, [.null, .null, .null, .null]))])) (va_Qv (fun (u : (Nat → Nat) × (Nat → Nat) × (Nat → Nat) × (Nat → Nat → Nat) × (Nat → Nat) × (Nat → Nat) × (Nat → Nat) × (Nat → Nat)) => u.1 0 = h0) (fun u => qS D cI cC cO (va_A [(h0, .inr (4, [.null, .null, .null, .null]))] sz) (wX4 u.1 u.2.1 u.2.2.1 u.2.2.2.1 u.2.2.2.2.1 u.2.2.2.2.2.1 u.2.2.2.2.2.2.1 u.2.2.2.2.2.2.2 cI cC cO res.1 res.2.1 res.2.2.1 res.2.2.2.1 res.2.2.2.2.1 res.2.2.2.2.2.1 res.2.2.2.2.2.2.1 res.2.2.2.2.2.2.2)) (va_A [(h0, .inr (4, [.null, .null, .null, .null]))] sz)) 38 1437 (va_A [(h0, .inr (4, [.null, .null, .null, .null]))] sz) := by
  refine Met.ofW (cc := cX4_init) (maxL := 1) (ret := (Option.none : Option Jvm.ClassFile.FieldType)) (by decide) rfl ?_
  intro p e s m args below meth c s₁ B hml hv
  obtain ⟨rfl, ⟨rfl, hP, hK, hD0, hN⟩, hO⟩ := hv
  have hx := B.exec
  have hb := B.bytes
  have hr := B.returns
  have ht : ∀ w ∈ lw_g, w.before ([.ref h0] : List Value).toArray s = true := fun w hw => atoms_spec (ws := Cond.code yX4_init cX4_init 1 (Option.none : Option Jvm.ClassFile.FieldType) :: lw_g) B.pre w (List.mem_cons_of_mem _ hw)
  have hown : s.vm.findClass RX4 = some m.cls := findClass_of_methodNamed B.named
  have hlocks := B.notSynchronized
  have hin : meth.name = "<init>" := (name_of_methodNamed B.named B.method).1
  have hD := hD0.self (sz := s.heap.size)
  generalize hAe : va_A [(h0, .inr (4, [.null, .null, .null, .null]))] s.heap.size = A at hD ⊢
  have hA : ∀ q : Nat, s.heap.size ≤ q → A q := fun q hq => by rw [← hAe]; exact Or.inr hq
  have hS : va_S A s.heap s.heap [] := va_S.rf
  have hl := lv_entry ([.ref h0]) (n := 1) (Nat.le_of_ble_eq_true rfl)
  rw [lg_entry_eq]
  generalize (lg_sl ([.ref h0]) ++ List.replicate (1 - (lg_sl ([.ref h0])).length) Slot.unset).toArray = ls at hl ⊢
  have hl : lv_has ls 1 [(0, .ref h0)] := hl
  unfold F_X4_init at h
  refine lv_aload_n hx hb dX4_init_0 rfl (lv_at hl 0 rfl) ?_
  refine W.objInit hx hb hown (ht _ wd_15) (ht _ wd_16) (ht _ wd_17) rfl (hl.1.trans hml.symm) rfl dX4_init_1 (Nat.le_of_ble_eq_true rfl) (Nat.le_of_ble_eq_true rfl) ?_
  refine W.eq (g2 := F0 m 4 ls []) rfl ?_
  refine lv_aload_n hx hb dX4_init_4 rfl (lv_at hl 0 rfl) ?_
  refine va_new (ci := 1) (fs := [.null, .null, .null, .int 0, .int 0]) (C := RX1) (T := TX1) (N := 5) hx hb ht i_X1 tyX1 tyX1_ok hown (ht _ wd_18) (ht _ wd_19) (ht _ wd_2) hK hP hD hS hA rfl (fun j hj => by rcases (show j = 0 ∨ j = 1 ∨ j = 2 ∨ j = 3 ∨ j = 4 by omega) with rfl | rfl | rfl | rfl | rfl <;> rfl) (Nat.le_of_ble_eq_true rfl) (Nat.le_of_ble_eq_true rfl) dX4_init_5 (fun q1 H hP hD hS => ?_)
  have hP : va_P D classes ([(h0, .inr (4, [.null, .null, .null, .null]))] ++ [(q1, .inr (1, [.null, .null, .null, .int 0, .int 0]))]) H := hP
  have hD : va_D A ([(h0, .inr (4, [.null, .null, .null, .null]))] ++ [(q1, .inr (1, [.null, .null, .null, .int 0, .int 0]))]) := hD
  refine lv_dup hx hb dX4_init_8 rfl ?_
  obtain ⟨r2, er2, h⟩ := b1_ok h
  refine cq_I ⟨hx, hb, hml, hown, ht⟩ (c_X1_init l D cI cC cO q1 r2 _ er2) (cwin 0 ht wd_22 wd_2 wd_20 wd_21 rfl (by decide +kernel) rfl rfl ⟨Nat.le_of_ble_eq_true rfl, Nat.le_of_ble_eq_true rfl⟩) hK hP hD hS hA hN hO (pm_l _ _) hl.1 rfl (Nat.le_of_ble_eq_true rfl) dX4_init_9 ⟨Nat.le_of_ble_eq_true rfl, Nat.le_of_ble_eq_true rfl⟩ (fun uq1 H locs hu hP9 hD9 hS => ?_)
  have hu : q1 = uq1 0 := hu.symm
  subst hu
  have hP : va_P D classes ([(h0, .inr (4, [.null, .null, .null, .null]))] ++ (wX1 uq1 cI cC cO r2)) H := hP9
  have hD : va_D A ([(h0, .inr (4, [.null, .null, .null, .null]))] ++ (wX1 uq1 cI cC cO r2)) := hD9
  refine va_putF (D := D) (ci := 4) (v := .ref (uq1 0)) (ty := .object "PipeMoments$Layout") (C := RX4) (T := TX4) (N := 4) hx hb ht i_X4 tyX4 tyX4_ok nmX4 hown hK hP hD hS 0 rfl rfl 0 (by decide) (ht _ wd_138) (fun _ h9 => h9) rfl hin rfl (by decide +kernel) rfl rfl (Nat.le_of_ble_eq_true rfl) dX4_init_12 (fun H locs hP hD hS => ?_)
  have hP : va_P D classes ([(h0, .inr (4, [.ref (uq1 0), .null, .null, .null]))] ++ (wX1 uq1 cI cC cO r2)) H := hP
  have hD : va_D A ([(h0, .inr (4, [.ref (uq1 0), .null, .null, .null]))] ++ (wX1 uq1 cI cC cO r2)) := hD
  refine lv_aload_n hx hb dX4_init_15 rfl (lv_at hl 0 rfl) ?_
  refine va_new (ci := 0) (fs := [.null, .int 0]) (C := RX0) (T := TX0) (N := 2) hx hb ht i_X0 tyX0 tyX0_ok hown (ht _ wd_50) (ht _ wd_51) (ht _ wd_3) hK hP hD hS hA rfl (fun j hj => by rcases (show j = 0 ∨ j = 1 by omega) with rfl | rfl <;> rfl) (Nat.le_of_ble_eq_true rfl) (Nat.le_of_ble_eq_true rfl) dX4_init_16 (fun q3 H hP hD hS => ?_)
  have hP : va_P D classes ([(h0, .inr (4, [.ref (uq1 0), .null, .null, .null]))] ++ (wX1 uq1 cI cC cO r2) ++ [(q3, .inr (0, [.null, .int 0]))]) H := hP
  have hD : va_D A ([(h0, .inr (4, [.ref (uq1 0), .null, .null, .null]))] ++ (wX1 uq1 cI cC cO r2) ++ [(q3, .inr (0, [.null, .int 0]))]) := hD
  refine lv_dup hx hb dX4_init_19 rfl ?_
  obtain ⟨r4, er4, h⟩ := b1_ok h
  refine cq_I ⟨hx, hb, hml, hown, ht⟩ (c_X0_init l D cI cC cO q3 r4 _ er4) (cwin 0 ht wd_54 wd_3 wd_52 wd_53 rfl (by decide +kernel) rfl rfl ⟨Nat.le_of_ble_eq_true rfl, Nat.le_of_ble_eq_true rfl⟩) hK hP hD hS hA hN hO (pm_l _ _) hl.1 rfl (Nat.le_of_ble_eq_true rfl) dX4_init_20 ⟨Nat.le_of_ble_eq_true rfl, Nat.le_of_ble_eq_true rfl⟩ (fun uq3 H locs hu hP9 hD9 hS => ?_)
  have hu : q3 = uq3.1 0 := hu.symm
  subst hu
  have hP : va_P D classes ([(h0, .inr (4, [.ref (uq1 0), .null, .null, .null]))] ++ (wX1 uq1 cI cC cO r2) ++ (wX0 uq3.1 uq3.2 cI cC cO r4.1 r4.2.1 r4.2.2)) H := hP9
  have hD : va_D A ([(h0, .inr (4, [.ref (uq1 0), .null, .null, .null]))] ++ (wX1 uq1 cI cC cO r2) ++ (wX0 uq3.1 uq3.2 cI cC cO r4.1 r4.2.1 r4.2.2)) := hD9
  refine va_putF (D := D) (ci := 4) (v := .ref (uq3.1 0)) (ty := .object "PipeMoments$History") (C := RX4) (T := TX4) (N := 4) hx hb ht i_X4 tyX4 tyX4_ok nmX4 hown hK hP hD hS 0 rfl rfl 1 (by decide) (ht _ wd_139) (fun _ h9 => h9) rfl hin rfl (by decide +kernel) rfl rfl (Nat.le_of_ble_eq_true rfl) dX4_init_23 (fun H locs hP hD hS => ?_)
  have hP : va_P D classes ([(h0, .inr (4, [.ref (uq1 0), .ref (uq3.1 0), .null, .null]))] ++ (wX1 uq1 cI cC cO r2) ++ (wX0 uq3.1 uq3.2 cI cC cO r4.1 r4.2.1 r4.2.2)) H := hP
  have hD : va_D A ([(h0, .inr (4, [.ref (uq1 0), .ref (uq3.1 0), .null, .null]))] ++ (wX1 uq1 cI cC cO r2) ++ (wX0 uq3.1 uq3.2 cI cC cO r4.1 r4.2.1 r4.2.2)) := hD
  refine lv_aload_n hx hb dX4_init_26 rfl (lv_at hl 0 rfl) ?_
  refine va_new (ci := 3) (fs := [.null, .null, .null, .null, .null, .int 0, .int 0]) (C := RX3) (T := TX3) (N := 7) hx hb ht i_X3 tyX3 tyX3_ok hown (ht _ wd_67) (ht _ wd_68) (ht _ wd_4) hK hP hD hS hA rfl (fun j hj => by rcases (show j = 0 ∨ j = 1 ∨ j = 2 ∨ j = 3 ∨ j = 4 ∨ j = 5 ∨ j = 6 by omega) with rfl | rfl | rfl | rfl | rfl | rfl | rfl <;> rfl) (Nat.le_of_ble_eq_true rfl) (Nat.le_of_ble_eq_true rfl) dX4_init_27 (fun q5 H hP hD hS => ?_)
  have hP : va_P D classes ([(h0, .inr (4, [.ref (uq1 0), .ref (uq3.1 0), .null, .null]))] ++ (wX1 uq1 cI cC cO r2) ++ (wX0 uq3.1 uq3.2 cI cC cO r4.1 r4.2.1 r4.2.2) ++ [(q5, .inr (3, [.null, .null, .null, .null, .null, .int 0, .int 0]))]) H := hP
  have hD : va_D A ([(h0, .inr (4, [.ref (uq1 0), .ref (uq3.1 0), .null, .null]))] ++ (wX1 uq1 cI cC cO r2) ++ (wX0 uq3.1 uq3.2 cI cC cO r4.1 r4.2.1 r4.2.2) ++ [(q5, .inr (3, [.null, .null, .null, .null, .null, .int 0, .int 0]))]) := hD
  refine lv_dup hx hb dX4_init_30 rfl ?_
  obtain ⟨r6, er6, h⟩ := b1_ok h
  refine cq_N ⟨hx, hb, hml, hown, ht⟩ (c_X3_init l D cI cC cO q5 r6 _ er6) ⟨va_cnB 0 ht (gI wd_71) rfl rfl rfl (hN.2 _ _ _ _ wd_69) (ht _ wd_4) (by decide +kernel) ⟨Nat.le_of_ble_eq_true rfl, Nat.le_of_ble_eq_true rfl⟩, rfl, ht _ wd_70⟩ hK hP hD hS hA hN hO (pm_l _ _) hl.1 rfl (Nat.le_of_ble_eq_true rfl) dX4_init_31 ⟨Nat.le_of_ble_eq_true rfl, Nat.le_of_ble_eq_true rfl⟩ (fun uq5 H locs hu hP9 hD9 hS => ?_)
  have hu : q5 = uq5.1 0 := hu.symm
  subst hu
  have hP : va_P D classes ([(h0, .inr (4, [.ref (uq1 0), .ref (uq3.1 0), .null, .null]))] ++ (wX1 uq1 cI cC cO r2) ++ (wX0 uq3.1 uq3.2 cI cC cO r4.1 r4.2.1 r4.2.2) ++ (wX3 uq5.1 uq5.2 cI cC cO r6.1 r6.2)) H := hP9
  have hD : va_D A ([(h0, .inr (4, [.ref (uq1 0), .ref (uq3.1 0), .null, .null]))] ++ (wX1 uq1 cI cC cO r2) ++ (wX0 uq3.1 uq3.2 cI cC cO r4.1 r4.2.1 r4.2.2) ++ (wX3 uq5.1 uq5.2 cI cC cO r6.1 r6.2)) := hD9
  refine va_putF (D := D) (ci := 4) (v := .ref (uq5.1 0)) (ty := .object "PipeMoments$Stream") (C := RX4) (T := TX4) (N := 4) hx hb ht i_X4 tyX4 tyX4_ok nmX4 hown hK hP hD hS 0 rfl rfl 2 (by decide) (ht _ wd_140) (fun _ h9 => h9) rfl hin rfl (by decide +kernel) rfl rfl (Nat.le_of_ble_eq_true rfl) dX4_init_34 (fun H locs hP hD hS => ?_)
  have hP : va_P D classes ([(h0, .inr (4, [.ref (uq1 0), .ref (uq3.1 0), .ref (uq5.1 0), .null]))] ++ (wX1 uq1 cI cC cO r2) ++ (wX0 uq3.1 uq3.2 cI cC cO r4.1 r4.2.1 r4.2.2) ++ (wX3 uq5.1 uq5.2 cI cC cO r6.1 r6.2)) H := hP
  have hD : va_D A ([(h0, .inr (4, [.ref (uq1 0), .ref (uq3.1 0), .ref (uq5.1 0), .null]))] ++ (wX1 uq1 cI cC cO r2) ++ (wX0 uq3.1 uq3.2 cI cC cO r4.1 r4.2.1 r4.2.2) ++ (wX3 uq5.1 uq5.2 cI cC cO r6.1 r6.2)) := hD
  refine lv_aload_n hx hb dX4_init_37 rfl (lv_at hl 0 rfl) ?_
  refine va_new (ci := 2) (fs := [.null, .null, .null, .int 0, .int 0, .int 0, .int 0, .int 0, .int 0]) (C := RX2) (T := TX2) (N := 9) hx hb ht i_X2 tyX2 tyX2_ok hown (ht _ wd_97) (ht _ wd_98) (ht _ wd_5) hK hP hD hS hA rfl (fun j hj => by rcases (show j = 0 ∨ j = 1 ∨ j = 2 ∨ j = 3 ∨ j = 4 ∨ j = 5 ∨ j = 6 ∨ j = 7 ∨ j = 8 by omega) with rfl | rfl | rfl | rfl | rfl | rfl | rfl | rfl | rfl <;> rfl) (Nat.le_of_ble_eq_true rfl) (Nat.le_of_ble_eq_true rfl) dX4_init_38 (fun q7 H hP hD hS => ?_)
  have hP : va_P D classes ([(h0, .inr (4, [.ref (uq1 0), .ref (uq3.1 0), .ref (uq5.1 0), .null]))] ++ (wX1 uq1 cI cC cO r2) ++ (wX0 uq3.1 uq3.2 cI cC cO r4.1 r4.2.1 r4.2.2) ++ (wX3 uq5.1 uq5.2 cI cC cO r6.1 r6.2) ++ [(q7, .inr (2, [.null, .null, .null, .int 0, .int 0, .int 0, .int 0, .int 0, .int 0]))]) H := hP
  have hD : va_D A ([(h0, .inr (4, [.ref (uq1 0), .ref (uq3.1 0), .ref (uq5.1 0), .null]))] ++ (wX1 uq1 cI cC cO r2) ++ (wX0 uq3.1 uq3.2 cI cC cO r4.1 r4.2.1 r4.2.2) ++ (wX3 uq5.1 uq5.2 cI cC cO r6.1 r6.2) ++ [(q7, .inr (2, [.null, .null, .null, .int 0, .int 0, .int 0, .int 0, .int 0, .int 0]))]) := hD
  refine lv_dup hx hb dX4_init_41 rfl ?_
  obtain ⟨r8, er8, h⟩ := b1_ok h
  refine cq_N ⟨hx, hb, hml, hown, ht⟩ (c_X2_init l D cI cC cO q7 r8 _ er8) ⟨va_cnB 0 ht (gI wd_101) rfl rfl rfl (hN.2 _ _ _ _ wd_99) (ht _ wd_5) (by decide +kernel) ⟨Nat.le_of_ble_eq_true rfl, Nat.le_of_ble_eq_true rfl⟩, rfl, ht _ wd_100⟩ hK hP hD hS hA hN hO (pm_l _ _) hl.1 rfl (Nat.le_of_ble_eq_true rfl) dX4_init_42 ⟨Nat.le_of_ble_eq_true rfl, Nat.le_of_ble_eq_true rfl⟩ (fun uq7 H locs hu hP9 hD9 hS => ?_)
  have hu : q7 = uq7.1 0 := hu.symm
  subst hu
  have hP : va_P D classes ([(h0, .inr (4, [.ref (uq1 0), .ref (uq3.1 0), .ref (uq5.1 0), .null]))] ++ (wX1 uq1 cI cC cO r2) ++ (wX0 uq3.1 uq3.2 cI cC cO r4.1 r4.2.1 r4.2.2) ++ (wX3 uq5.1 uq5.2 cI cC cO r6.1 r6.2) ++ (wX2 uq7.1 uq7.2 cI cC cO r8.1 r8.2)) H := hP9
  have hD : va_D A ([(h0, .inr (4, [.ref (uq1 0), .ref (uq3.1 0), .ref (uq5.1 0), .null]))] ++ (wX1 uq1 cI cC cO r2) ++ (wX0 uq3.1 uq3.2 cI cC cO r4.1 r4.2.1 r4.2.2) ++ (wX3 uq5.1 uq5.2 cI cC cO r6.1 r6.2) ++ (wX2 uq7.1 uq7.2 cI cC cO r8.1 r8.2)) := hD9
  refine va_putF (D := D) (ci := 4) (v := .ref (uq7.1 0)) (ty := .object "PipeMoments$Settings") (C := RX4) (T := TX4) (N := 4) hx hb ht i_X4 tyX4 tyX4_ok nmX4 hown hK hP hD hS 0 rfl rfl 3 (by decide) (ht _ wd_141) (fun _ h9 => h9) rfl hin rfl (by decide +kernel) rfl rfl (Nat.le_of_ble_eq_true rfl) dX4_init_45 (fun H locs hP hD hS => ?_)
  have hP : va_P D classes ([(h0, .inr (4, [.ref (uq1 0), .ref (uq3.1 0), .ref (uq5.1 0), .ref (uq7.1 0)]))] ++ (wX1 uq1 cI cC cO r2) ++ (wX0 uq3.1 uq3.2 cI cC cO r4.1 r4.2.1 r4.2.2) ++ (wX3 uq5.1 uq5.2 cI cC cO r6.1 r6.2) ++ (wX2 uq7.1 uq7.2 cI cC cO r8.1 r8.2)) H := hP
  have hD : va_D A ([(h0, .inr (4, [.ref (uq1 0), .ref (uq3.1 0), .ref (uq5.1 0), .ref (uq7.1 0)]))] ++ (wX1 uq1 cI cC cO r2) ++ (wX0 uq3.1 uq3.2 cI cC cO r4.1 r4.2.1 r4.2.2) ++ (wX3 uq5.1 uq5.2 cI cC cO r6.1 r6.2) ++ (wX2 uq7.1 uq7.2 cI cC cO r8.1 r8.2)) := hD
  cases h
  have hP : va_P D classes (wX4 (fun _ : Nat => h0) uq1 uq3.1 uq3.2 uq5.1 uq5.2 uq7.1 uq7.2 cI cC cO r2 r4.1 r4.2.1 r4.2.2 r6.1 r6.2 r8.1 r8.2) H := hP
  have hD : va_D A (wX4 (fun _ : Nat => h0) uq1 uq3.1 uq3.2 uq5.1 uq5.2 uq7.1 uq7.2 cI cC cO r2 r4.1 r4.2.1 r4.2.2 r6.1 r6.2 r8.1 r8.2) := hD
  exact rt_c ((fun _ : Nat => h0), uq1, uq3.1, uq3.2, uq5.1, uq5.2, uq7.1, uq7.2) rfl hx hb hr hlocks hS hP hK hD dX4_init_48
