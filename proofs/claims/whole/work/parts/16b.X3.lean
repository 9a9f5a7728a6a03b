def F_X3_init : Option (Mm × Mm) := (b1 F_X1_init fun r2 => (sv (va_up zz 4 (upd (zz 4) 0 (0 : Int32))) fun S101 => (sv (va_up S101 4 (upd (S101 4) 1 (-1 : Int32))) fun S103 => some (S103, r2))))
theorem dX3_init_0 : decode cX3_init 0 = .ok (.aload_n 0, 1) := by decide +kernel
theorem dX3_init_1 : decode cX3_init 1 = .ok (.invokespecial 5, 3) := by decide +kernel
theorem dX3_init_4 : decode cX3_init 4 = .ok (.aload_n 0, 1) := by decide +kernel
theorem dX3_init_5 : decode cX3_init 5 = .ok (.new 11, 3) := by decide +kernel
theorem dX3_init_8 : decode cX3_init 8 = .ok (.dup, 1) := by decide +kernel
theorem dX3_init_9 : decode cX3_init 9 = .ok (.invokespecial 13, 3) := by decide +kernel
theorem dX3_init_12 : decode cX3_init 12 = .ok (.putfield 14, 3) := by decide +kernel
theorem dX3_init_15 : decode cX3_init 15 = .ok (.aload_n 0, 1) := by decide +kernel
theorem dX3_init_16 : decode cX3_init 16 = .ok (.sipush 524, 3) := by decide +kernel
theorem dX3_init_19 : decode cX3_init 19 = .ok (.newarray .int, 2) := by decide +kernel
theorem dX3_init_21 : decode cX3_init 21 = .ok (.putfield 18, 3) := by decide +kernel
theorem dX3_init_24 : decode cX3_init 24 = .ok (.aload_n 0, 1) := by decide +kernel
theorem dX3_init_25 : decode cX3_init 25 = .ok (.bipush 96, 2) := by decide +kernel
theorem dX3_init_27 : decode cX3_init 27 = .ok (.newarray .int, 2) := by decide +kernel
theorem dX3_init_29 : decode cX3_init 29 = .ok (.putfield 22, 3) := by decide +kernel
theorem dX3_init_32 : decode cX3_init 32 = .ok (.aload_n 0, 1) := by decide +kernel
theorem dX3_init_33 : decode cX3_init 33 = .ok (.bipush 96, 2) := by decide +kernel
theorem dX3_init_35 : decode cX3_init 35 = .ok (.newarray .int, 2) := by decide +kernel
theorem dX3_init_37 : decode cX3_init 37 = .ok (.putfield 25, 3) := by decide +kernel
theorem dX3_init_40 : decode cX3_init 40 = .ok (.aload_n 0, 1) := by decide +kernel
theorem dX3_init_41 : decode cX3_init 41 = .ok (.bipush 96, 2) := by decide +kernel
theorem dX3_init_43 : decode cX3_init 43 = .ok (.newarray .int, 2) := by decide +kernel
theorem dX3_init_45 : decode cX3_init 45 = .ok (.putfield 28, 3) := by decide +kernel
theorem dX3_init_48 : decode cX3_init 48 = .ok (.aload_n 0, 1) := by decide +kernel
theorem dX3_init_49 : decode cX3_init 49 = .ok (.iconst 0, 1) := by decide +kernel
theorem dX3_init_50 : decode cX3_init 50 = .ok (.putfield 31, 3) := by decide +kernel
theorem dX3_init_53 : decode cX3_init 53 = .ok (.aload_n 0, 1) := by decide +kernel
theorem dX3_init_54 : decode cX3_init 54 = .ok (.iconst (-1), 1) := by decide +kernel
theorem dX3_init_55 : decode cX3_init 55 = .ok (.putfield 35, 3) := by decide +kernel
theorem dX3_init_58 : decode cX3_init 58 = .ok (.return_, 1) := by decide +kernel
set_option maxHeartbeats 4000000 in
set_option maxRecDepth 100000 in
theorem c_X3_init (l : Launch) (D : va_G) (cI cC cO : ClassId) (h0 : Nat) (res : Mm × Mm) (sz : Nat) (h : F_X3_init = some res) : Met l yX3_init (Cond.code yX3_init cX3_init 1 (Option.none : Option Jvm.ClassFile.FieldType) :: lw_g) ({ frames := 2, cells := 8, slots := 889, locals := 32 } : Room) (va_Pc [.ref h0] (pT D cI cC cO sz [(h0, .inr (3, [.null, .null, .null, .null, .null, .int 0, .int 0]))])) (va_Qv (fun (u : (Nat → Nat) × (Nat → Nat)) => u.1 0 = h0) (fun u => qS D cI cC cO (va_A [(h0, .inr (3, [.null, .null, .null, .null, .null, .int 0, .int 0]))] sz) (wX3 u.1 u.2 cI cC cO res.1 res.2)) (va_A [(h0, .inr (3, [.null, .null, .null, .null, .null, .int 0, .int 0]))] sz)) 8 889 (va_A [(h0, .inr (3, [.null, .null, .null, .null, .null, .int 0, .int 0]))] sz) := by
  refine Met.ofW (cc := cX3_init) (maxL := 1) (ret := (Option.none : Option Jvm.ClassFile.FieldType)) (by decide) rfl ?_
  intro p e s m args below meth c s₁ B hml hv
  obtain ⟨rfl, ⟨rfl, hP, hK, hD0, hN⟩, hO⟩ := hv
  have hx := B.exec
  have hb := B.bytes
  have hr := B.returns
  have ht : ∀ w ∈ lw_g, w.before ([.ref h0] : List Value).toArray s = true := fun w hw => atoms_spec (ws := Cond.code yX3_init cX3_init 1 (Option.none : Option Jvm.ClassFile.FieldType) :: lw_g) B.pre w (List.mem_cons_of_mem _ hw)
  have hown : s.vm.findClass RX3 = some m.cls := findClass_of_methodNamed B.named
  have hlocks := B.notSynchronized
  have hin : meth.name = "<init>" := (name_of_methodNamed B.named B.method).1
  have hD := hD0.self (sz := s.heap.size)
  generalize hAe : va_A [(h0, .inr (3, [.null, .null, .null, .null, .null, .int 0, .int 0]))] s.heap.size = A at hD ⊢
  have hA : ∀ q : Nat, s.heap.size ≤ q → A q := fun q hq => by rw [← hAe]; exact Or.inr hq
  have hS : va_S A s.heap s.heap [] := va_S.rf
  have hl := lv_entry ([.ref h0]) (n := 1) (Nat.le_of_ble_eq_true rfl)
  rw [lg_entry_eq]
  generalize (lg_sl ([.ref h0]) ++ List.replicate (1 - (lg_sl ([.ref h0])).length) Slot.unset).toArray = ls at hl ⊢
  have hl : lv_has ls 1 [(0, .ref h0)] := hl
  unfold F_X3_init at h
  refine lv_aload_n hx hb dX3_init_0 rfl (lv_at hl 0 rfl) ?_
  refine W.objInit hx hb hown (ht _ wd_72) (ht _ wd_16) (ht _ wd_17) rfl (hl.1.trans hml.symm) rfl dX3_init_1 (Nat.le_of_ble_eq_true rfl) (Nat.le_of_ble_eq_true rfl) ?_
  refine W.eq (g2 := F0 m 4 ls []) rfl ?_
  refine lv_aload_n hx hb dX3_init_4 rfl (lv_at hl 0 rfl) ?_
  refine va_new (ci := 1) (fs := [.null, .null, .null, .int 0, .int 0]) (C := RX1) (T := TX1) (N := 5) hx hb ht i_X1 tyX1 tyX1_ok hown (ht _ wd_73) (ht _ wd_19) (ht _ wd_2) hK hP hD hS hA rfl (fun j hj => by rcases (show j = 0 ∨ j = 1 ∨ j = 2 ∨ j = 3 ∨ j = 4 by omega) with rfl | rfl | rfl | rfl | rfl <;> rfl) (Nat.le_of_ble_eq_true rfl) (Nat.le_of_ble_eq_true rfl) dX3_init_5 (fun q1 H hP hD hS => ?_)
  have hP : va_P D classes ([(h0, .inr (3, [.null, .null, .null, .null, .null, .int 0, .int 0]))] ++ [(q1, .inr (1, [.null, .null, .null, .int 0, .int 0]))]) H := hP
  have hD : va_D A ([(h0, .inr (3, [.null, .null, .null, .null, .null, .int 0, .int 0]))] ++ [(q1, .inr (1, [.null, .null, .null, .int 0, .int 0]))]) := hD
  refine lv_dup hx hb dX3_init_8 rfl ?_
  obtain ⟨r2, er2, h⟩ := b1_ok h
  refine cq_I ⟨hx, hb, hml, hown, ht⟩ (c_X1_init l D cI cC cO q1 r2 _ er2) (cwin 0 ht wd_22 wd_2 wd_74 wd_21 rfl (by decide +kernel) rfl rfl ⟨Nat.le_of_ble_eq_true rfl, Nat.le_of_ble_eq_true rfl⟩) hK hP hD hS hA hN hO (pm_l _ _) hl.1 rfl (Nat.le_of_ble_eq_true rfl) dX3_init_9 ⟨Nat.le_of_ble_eq_true rfl, Nat.le_of_ble_eq_true rfl⟩ (fun uq1 H locs hu hP9 hD9 hS => ?_)
  have hu : q1 = uq1 0 := hu.symm
  subst hu
  have hP : va_P D classes ([(h0, .inr (3, [.null, .null, .null, .null, .null, .int 0, .int 0]))] ++ (wX1 uq1 cI cC cO r2)) H := hP9
  have hD : va_D A ([(h0, .inr (3, [.null, .null, .null, .null, .null, .int 0, .int 0]))] ++ (wX1 uq1 cI cC cO r2)) := hD9
  refine va_putF (D := D) (ci := 3) (v := .ref (uq1 0)) (ty := .object "PipeMoments$Layout") (C := RX3) (T := TX3) (N := 7) hx hb ht i_X3 tyX3 tyX3_ok nmX3 hown hK hP hD hS 0 rfl rfl 0 (by decide) (ht _ wd_75) (fun _ h9 => h9) rfl hin rfl (by decide +kernel) rfl rfl (Nat.le_of_ble_eq_true rfl) dX3_init_12 (fun H locs hP hD hS => ?_)
  have hP : va_P D classes ([(h0, .inr (3, [.ref (uq1 0), .null, .null, .null, .null, .int 0, .int 0]))] ++ (wX1 uq1 cI cC cO r2)) H := hP
  have hD : va_D A ([(h0, .inr (3, [.ref (uq1 0), .null, .null, .null, .null, .int 0, .int 0]))] ++ (wX1 uq1 cI cC cO r2)) := hD
  refine lv_aload_n hx hb dX3_init_15 rfl (lv_at hl 0 rfl) ?_
  refine lv_sipush (v := (524 : Int32)) hx hb dX3_init_16 (by decide) ?_
  refine nw_i (N := 524) hx hb (ht _ wd_49) hK hP hD hS hA (by decide) (by decide) (Nat.le_of_ble_eq_true rfl) (Nat.le_of_ble_eq_true rfl) (Nat.le_of_ble_eq_true rfl) dX3_init_19 (fun q3 H hP hD hS => ?_)
  refine va_putF (D := D) (ci := 3) (v := .ref q3) (ty := .array .int) (C := RX3) (T := TX3) (N := 7) hx hb ht i_X3 tyX3 tyX3_ok nmX3 hown hK hP hD hS 0 rfl rfl 1 (by decide) (ht _ wd_76) (fun _ h9 => h9) rfl hin rfl (by decide +kernel) rfl rfl (Nat.le_of_ble_eq_true rfl) dX3_init_21 (fun H locs hP hD hS => ?_)
  have hP : va_P D classes ([(h0, .inr (3, [.ref (uq1 0), .ref q3, .null, .null, .null, .int 0, .int 0]))] ++ (wX1 uq1 cI cC cO r2) ++ [(q3, .inl (cI, 524, .inl (fun _ => 0)))]) H := hP
  have hD : va_D A ([(h0, .inr (3, [.ref (uq1 0), .ref q3, .null, .null, .null, .int 0, .int 0]))] ++ (wX1 uq1 cI cC cO r2) ++ [(q3, .inl (cI, 524, .inl (fun _ => 0)))]) := hD
  refine lv_aload_n hx hb dX3_init_24 rfl (lv_at hl 0 rfl) ?_
  refine lv_bipush (v := (96 : Int32)) hx hb dX3_init_25 (by decide) ?_
  refine nw_i (N := 96) hx hb (ht _ wd_49) hK hP hD hS hA (by decide) (by decide) (Nat.le_of_ble_eq_true rfl) (Nat.le_of_ble_eq_true rfl) (Nat.le_of_ble_eq_true rfl) dX3_init_27 (fun q4 H hP hD hS => ?_)
  refine va_putF (D := D) (ci := 3) (v := .ref q4) (ty := .array .int) (C := RX3) (T := TX3) (N := 7) hx hb ht i_X3 tyX3 tyX3_ok nmX3 hown hK hP hD hS 0 rfl rfl 2 (by decide) (ht _ wd_77) (fun _ h9 => h9) rfl hin rfl (by decide +kernel) rfl rfl (Nat.le_of_ble_eq_true rfl) dX3_init_29 (fun H locs hP hD hS => ?_)
  have hP : va_P D classes ([(h0, .inr (3, [.ref (uq1 0), .ref q3, .ref q4, .null, .null, .int 0, .int 0]))] ++ (wX1 uq1 cI cC cO r2) ++ [(q3, .inl (cI, 524, .inl (fun _ => 0)))] ++ [(q4, .inl (cI, 96, .inl (fun _ => 0)))]) H := hP
  have hD : va_D A ([(h0, .inr (3, [.ref (uq1 0), .ref q3, .ref q4, .null, .null, .int 0, .int 0]))] ++ (wX1 uq1 cI cC cO r2) ++ [(q3, .inl (cI, 524, .inl (fun _ => 0)))] ++ [(q4, .inl (cI, 96, .inl (fun _ => 0)))]) := hD
  refine lv_aload_n hx hb dX3_init_32 rfl (lv_at hl 0 rfl) ?_
  refine lv_bipush (v := (96 : Int32)) hx hb dX3_init_33 (by decide) ?_
  refine nw_i (N := 96) hx hb (ht _ wd_49) hK hP hD hS hA (by decide) (by decide) (Nat.le_of_ble_eq_true rfl) (Nat.le_of_ble_eq_true rfl) (Nat.le_of_ble_eq_true rfl) dX3_init_35 (fun q5 H hP hD hS => ?_)
  refine va_putF (D := D) (ci := 3) (v := .ref q5) (ty := .array .int) (C := RX3) (T := TX3) (N := 7) hx hb ht i_X3 tyX3 tyX3_ok nmX3 hown hK hP hD hS 0 rfl rfl 3 (by decide) (ht _ wd_78) (fun _ h9 => h9) rfl hin rfl (by decide +kernel) rfl rfl (Nat.le_of_ble_eq_true rfl) dX3_init_37 (fun H locs hP hD hS => ?_)
  have hP : va_P D classes ([(h0, .inr (3, [.ref (uq1 0), .ref q3, .ref q4, .ref q5, .null, .int 0, .int 0]))] ++ (wX1 uq1 cI cC cO r2) ++ [(q3, .inl (cI, 524, .inl (fun _ => 0)))] ++ [(q4, .inl (cI, 96, .inl (fun _ => 0)))] ++ [(q5, .inl (cI, 96, .inl (fun _ => 0)))]) H := hP
  have hD : va_D A ([(h0, .inr (3, [.ref (uq1 0), .ref q3, .ref q4, .ref q5, .null, .int 0, .int 0]))] ++ (wX1 uq1 cI cC cO r2) ++ [(q3, .inl (cI, 524, .inl (fun _ => 0)))] ++ [(q4, .inl (cI, 96, .inl (fun _ => 0)))] ++ [(q5, .inl (cI, 96, .inl (fun _ => 0)))]) := hD
  refine lv_aload_n hx hb dX3_init_40 rfl (lv_at hl 0 rfl) ?_
  refine lv_bipush (v := (96 : Int32)) hx hb dX3_init_41 (by decide) ?_
  refine nw_i (N := 96) hx hb (ht _ wd_49) hK hP hD hS hA (by decide) (by decide) (Nat.le_of_ble_eq_true rfl) (Nat.le_of_ble_eq_true rfl) (Nat.le_of_ble_eq_true rfl) dX3_init_43 (fun q6 H hP hD hS => ?_)
  refine va_putF (D := D) (ci := 3) (v := .ref q6) (ty := .array .int) (C := RX3) (T := TX3) (N := 7) hx hb ht i_X3 tyX3 tyX3_ok nmX3 hown hK hP hD hS 0 rfl rfl 4 (by decide) (ht _ wd_79) (fun _ h9 => h9) rfl hin rfl (by decide +kernel) rfl rfl (Nat.le_of_ble_eq_true rfl) dX3_init_45 (fun H locs hP hD hS => ?_)
  have hP : va_P D classes ([(h0, .inr (3, [.ref (uq1 0), .ref q3, .ref q4, .ref q5, .ref q6, .int 0, .int 0]))] ++ (wX1 uq1 cI cC cO r2) ++ [(q3, .inl (cI, 524, .inl (fun _ => 0)))] ++ [(q4, .inl (cI, 96, .inl (fun _ => 0)))] ++ [(q5, .inl (cI, 96, .inl (fun _ => 0)))] ++ [(q6, .inl (cI, 96, .inl (fun _ => 0)))]) H := hP
  have hD : va_D A ([(h0, .inr (3, [.ref (uq1 0), .ref q3, .ref q4, .ref q5, .ref q6, .int 0, .int 0]))] ++ (wX1 uq1 cI cC cO r2) ++ [(q3, .inl (cI, 524, .inl (fun _ => 0)))] ++ [(q4, .inl (cI, 96, .inl (fun _ => 0)))] ++ [(q5, .inl (cI, 96, .inl (fun _ => 0)))] ++ [(q6, .inl (cI, 96, .inl (fun _ => 0)))]) := hD
  have hP := va_P_perm (pm_f _ _ _ _ _ _) hP
  have hD := va_D_perm (pm_f _ _ _ _ _ _) hD
  obtain ⟨f, haf⟩ : ∃ f : Nat → Nat, f = fun k : Nat => if k = 0 then h0 else if k = 1 then q3 else if k = 2 then q4 else if k = 3 then q5 else q6 := ⟨_, rfl⟩
  obtain ⟨n, hkn⟩ : ∃ n : Nat → Nat, n = uq1 := ⟨_, rfl⟩
  have hP : va_P D classes (wX3 f n cI cC cO zz r2) H := by rw [haf, hkn]; exact hP
  have hD : va_D A (wX3 f n cI cC cO zz r2) := by rw [haf, hkn]; exact hD
  have e0 : h0 = f 0 := by rw [haf]; rfl
  rw [e0] at hl ht hAe ⊢
  refine lv_aload_n hx hb dX3_init_48 rfl (lv_at hl 0 rfl) ?_
  refine lv_iconst (v := (0 : Int32)) hx hb dX3_init_49 (by decide) ?_
  refine va_put (D := D) (ci := 3) (v := .int (0 : Int32)) (ty := .int) (C := RX3) (T := TX3) (N := 7) hx hb ht i_X3 tyX3 tyX3_ok nmX3 hown hK hP hD hS 0 rfl rfl 5 (by decide) (ht _ wd_80) (fun _ h9 => h9) rfl (by decide +kernel) rfl rfl (Nat.le_of_ble_eq_true rfl) dX3_init_50 (fun H locs hP hD hS => ?_)
  obtain ⟨S101, e102, h⟩ := sv_ok h
  have hP : va_P D classes (wX3 f n cI cC cO S101 r2) H := by rw [← e102]; exact hP
  have hD : va_D A (wX3 f n cI cC cO S101 r2) := by rw [← e102]; exact hD
  refine lv_aload_n hx hb dX3_init_53 rfl (lv_at hl 0 rfl) ?_
  refine lv_iconst (v := (-1 : Int32)) hx hb dX3_init_54 (by decide) ?_
  refine va_put (D := D) (ci := 3) (v := .int (-1 : Int32)) (ty := .int) (C := RX3) (T := TX3) (N := 7) hx hb ht i_X3 tyX3 tyX3_ok nmX3 hown hK hP hD hS 0 rfl rfl 6 (by decide) (ht _ wd_81) (fun _ h9 => h9) rfl (by decide +kernel) rfl rfl (Nat.le_of_ble_eq_true rfl) dX3_init_55 (fun H locs hP hD hS => ?_)
  obtain ⟨S103, e104, h⟩ := sv_ok h
  have hP : va_P D classes (wX3 f n cI cC cO S103 r2) H := by rw [← e104]; exact hP
  have hD : va_D A (wX3 f n cI cC cO S103 r2) := by rw [← e104]; exact hD
  cases h
  exact rt_c (f, n) rfl hx hb hr hlocks hS hP hK hD dX3_init_58
