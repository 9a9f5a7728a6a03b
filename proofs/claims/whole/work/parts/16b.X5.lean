def F_X5_init : Option (Mm) := (ck (0 : Int32) 74 <| (sv (va_up zz 0 (upd (zz 0) (0 : Int32).toNatClampNeg (1 : Int32))) fun M102 => (ck (3 : Int32) 74 <| (sv (va_up M102 0 (upd (M102 0) (3 : Int32).toNatClampNeg (40 : Int32))) fun M105 => (b1 (F_X5_asIs M105) fun M107 => some (M107))))))
theorem dX5_init_0 : decode cX5_init 0 = .ok (.aload_n 0, 1) := by decide +kernel
theorem dX5_init_1 : decode cX5_init 1 = .ok (.invokespecial 1, 3) := by decide +kernel
theorem dX5_init_4 : decode cX5_init 4 = .ok (.aload_n 0, 1) := by decide +kernel
theorem dX5_init_5 : decode cX5_init 5 = .ok (.bipush 74, 2) := by decide +kernel
theorem dX5_init_7 : decode cX5_init 7 = .ok (.newarray .int, 2) := by decide +kernel
theorem dX5_init_9 : decode cX5_init 9 = .ok (.putfield 7, 3) := by decide +kernel
theorem dX5_init_12 : decode cX5_init 12 = .ok (.aload_n 0, 1) := by decide +kernel
theorem dX5_init_13 : decode cX5_init 13 = .ok (.sipush 296, 3) := by decide +kernel
theorem dX5_init_16 : decode cX5_init 16 = .ok (.newarray .int, 2) := by decide +kernel
theorem dX5_init_18 : decode cX5_init 18 = .ok (.putfield 13, 3) := by decide +kernel
theorem dX5_init_21 : decode cX5_init 21 = .ok (.aload_n 0, 1) := by decide +kernel
theorem dX5_init_22 : decode cX5_init 22 = .ok (.bipush 74, 2) := by decide +kernel
theorem dX5_init_24 : decode cX5_init 24 = .ok (.newarray .int, 2) := by decide +kernel
theorem dX5_init_26 : decode cX5_init 26 = .ok (.putfield 16, 3) := by decide +kernel
theorem dX5_init_29 : decode cX5_init 29 = .ok (.aload_n 0, 1) := by decide +kernel
theorem dX5_init_30 : decode cX5_init 30 = .ok (.bipush 74, 2) := by decide +kernel
theorem dX5_init_32 : decode cX5_init 32 = .ok (.newarray .int, 2) := by decide +kernel
theorem dX5_init_34 : decode cX5_init 34 = .ok (.putfield 19, 3) := by decide +kernel
theorem dX5_init_37 : decode cX5_init 37 = .ok (.aload_n 0, 1) := by decide +kernel
theorem dX5_init_38 : decode cX5_init 38 = .ok (.bipush 60, 2) := by decide +kernel
theorem dX5_init_40 : decode cX5_init 40 = .ok (.newarray .char, 2) := by decide +kernel
theorem dX5_init_42 : decode cX5_init 42 = .ok (.putfield 22, 3) := by decide +kernel
theorem dX5_init_45 : decode cX5_init 45 = .ok (.aload_n 0, 1) := by decide +kernel
theorem dX5_init_46 : decode cX5_init 46 = .ok (.iconst 4, 1) := by decide +kernel
theorem dX5_init_47 : decode cX5_init 47 = .ok (.newarray .int, 2) := by decide +kernel
theorem dX5_init_49 : decode cX5_init 49 = .ok (.putfield 26, 3) := by decide +kernel
theorem dX5_init_52 : decode cX5_init 52 = .ok (.aload_n 0, 1) := by decide +kernel
theorem dX5_init_53 : decode cX5_init 53 = .ok (.bipush 6, 2) := by decide +kernel
theorem dX5_init_55 : decode cX5_init 55 = .ok (.newarray .int, 2) := by decide +kernel
theorem dX5_init_57 : decode cX5_init 57 = .ok (.putfield 29, 3) := by decide +kernel
theorem dX5_init_60 : decode cX5_init 60 = .ok (.aload_n 0, 1) := by decide +kernel
theorem dX5_init_61 : decode cX5_init 61 = .ok (.bipush 96, 2) := by decide +kernel
theorem dX5_init_63 : decode cX5_init 63 = .ok (.newarray .int, 2) := by decide +kernel
theorem dX5_init_65 : decode cX5_init 65 = .ok (.putfield 32, 3) := by decide +kernel
theorem dX5_init_68 : decode cX5_init 68 = .ok (.aload_n 0, 1) := by decide +kernel
theorem dX5_init_69 : decode cX5_init 69 = .ok (.sipush 160, 3) := by decide +kernel
theorem dX5_init_72 : decode cX5_init 72 = .ok (.newarray .int, 2) := by decide +kernel
theorem dX5_init_74 : decode cX5_init 74 = .ok (.putfield 35, 3) := by decide +kernel
theorem dX5_init_77 : decode cX5_init 77 = .ok (.aload_n 0, 1) := by decide +kernel
theorem dX5_init_78 : decode cX5_init 78 = .ok (.bipush 96, 2) := by decide +kernel
theorem dX5_init_80 : decode cX5_init 80 = .ok (.newarray .int, 2) := by decide +kernel
theorem dX5_init_82 : decode cX5_init 82 = .ok (.putfield 38, 3) := by decide +kernel
theorem dX5_init_85 : decode cX5_init 85 = .ok (.aload_n 0, 1) := by decide +kernel
theorem dX5_init_86 : decode cX5_init 86 = .ok (.bipush 96, 2) := by decide +kernel
theorem dX5_init_88 : decode cX5_init 88 = .ok (.newarray .int, 2) := by decide +kernel
theorem dX5_init_90 : decode cX5_init 90 = .ok (.putfield 41, 3) := by decide +kernel
theorem dX5_init_93 : decode cX5_init 93 = .ok (.aload_n 0, 1) := by decide +kernel
theorem dX5_init_94 : decode cX5_init 94 = .ok (.bipush 96, 2) := by decide +kernel
theorem dX5_init_96 : decode cX5_init 96 = .ok (.newarray .int, 2) := by decide +kernel
theorem dX5_init_98 : decode cX5_init 98 = .ok (.putfield 44, 3) := by decide +kernel
theorem dX5_init_101 : decode cX5_init 101 = .ok (.aload_n 0, 1) := by decide +kernel
theorem dX5_init_102 : decode cX5_init 102 = .ok (.getfield 7, 3) := by decide +kernel
theorem dX5_init_105 : decode cX5_init 105 = .ok (.iconst 0, 1) := by decide +kernel
theorem dX5_init_106 : decode cX5_init 106 = .ok (.iconst 1, 1) := by decide +kernel
theorem dX5_init_107 : decode cX5_init 107 = .ok (.iastore, 1) := by decide +kernel
theorem dX5_init_108 : decode cX5_init 108 = .ok (.aload_n 0, 1) := by decide +kernel
theorem dX5_init_109 : decode cX5_init 109 = .ok (.getfield 7, 3) := by decide +kernel
theorem dX5_init_112 : decode cX5_init 112 = .ok (.iconst 3, 1) := by decide +kernel
theorem dX5_init_113 : decode cX5_init 113 = .ok (.bipush 40, 2) := by decide +kernel
theorem dX5_init_115 : decode cX5_init 115 = .ok (.iastore, 1) := by decide +kernel
theorem dX5_init_116 : decode cX5_init 116 = .ok (.aload_n 0, 1) := by decide +kernel
theorem dX5_init_117 : decode cX5_init 117 = .ok (.invokevirtual 47, 3) := by decide +kernel
theorem dX5_init_120 : decode cX5_init 120 = .ok (.return_, 1) := by decide +kernel
set_option maxHeartbeats 4000000 in
set_option maxRecDepth 100000 in
theorem c_X5_init (l : Launch) (D : va_G) (cI cC cO : ClassId) (h0 : Nat) (res : Mm) (sz : Nat) (h : F_X5_init = some res) : Met l yX5_init (Cond.code yX5_init cX5_init 1 (Option.none : Option Jvm.ClassFile.FieldType) :: lw_g) ({ frames := 1, cells := 12, slots := 1132, locals := 20 } : Room) (va_Pc [.ref h0] (pT D cI cC cO sz [(h0, .inr (5, [.null, .null, .null, .null, .int 0, .null, .int 0, .int 0, .int 0, .int 0, .null, .null, .null, .null, .null, .null, .null, .int 0, .int 0, .int 0, .int 0, .int 0, .int 0]))])) (va_Qv (fun (u : (Nat → Nat)) => u 0 = h0) (fun u => qS D cI cC cO (va_A [(h0, .inr (5, [.null, .null, .null, .null, .int 0, .null, .int 0, .int 0, .int 0, .int 0, .null, .null, .null, .null, .null, .null, .null, .int 0, .int 0, .int 0, .int 0, .int 0, .int 0]))] sz) (wX5 u cI cC cO res)) (va_A [(h0, .inr (5, [.null, .null, .null, .null, .int 0, .null, .int 0, .int 0, .int 0, .int 0, .null, .null, .null, .null, .null, .null, .null, .int 0, .int 0, .int 0, .int 0, .int 0, .int 0]))] sz)) 12 1132 (va_A [(h0, .inr (5, [.null, .null, .null, .null, .int 0, .null, .int 0, .int 0, .int 0, .int 0, .null, .null, .null, .null, .null, .null, .null, .int 0, .int 0, .int 0, .int 0, .int 0, .int 0]))] sz) := by
  refine Met.ofW (cc := cX5_init) (maxL := 1) (ret := (Option.none : Option Jvm.ClassFile.FieldType)) (by decide) rfl ?_
  intro p e s m args below meth c s₁ B hml hv
  obtain ⟨rfl, ⟨rfl, hP, hK, hD0, hN⟩, hO⟩ := hv
  have hx := B.exec
  have hb := B.bytes
  have hr := B.returns
  have ht : ∀ w ∈ lw_g, w.before ([.ref h0] : List Value).toArray s = true := fun w hw => atoms_spec (ws := Cond.code yX5_init cX5_init 1 (Option.none : Option Jvm.ClassFile.FieldType) :: lw_g) B.pre w (List.mem_cons_of_mem _ hw)
  have hown : s.vm.findClass RX5 = some m.cls := findClass_of_methodNamed B.named
  have hlocks := B.notSynchronized
  have hin : meth.name = "<init>" := (name_of_methodNamed B.named B.method).1
  have hD := hD0.self (sz := s.heap.size)
  generalize hAe : va_A [(h0, .inr (5, [.null, .null, .null, .null, .int 0, .null, .int 0, .int 0, .int 0, .int 0, .null, .null, .null, .null, .null, .null, .null, .int 0, .int 0, .int 0, .int 0, .int 0, .int 0]))] s.heap.size = A at hD ⊢
  have hA : ∀ q : Nat, s.heap.size ≤ q → A q := fun q hq => by rw [← hAe]; exact Or.inr hq
  have hS : va_S A s.heap s.heap [] := va_S.rf
  have hl := lv_entry ([.ref h0]) (n := 1) (Nat.le_of_ble_eq_true rfl)
  rw [lg_entry_eq]
  generalize (lg_sl ([.ref h0]) ++ List.replicate (1 - (lg_sl ([.ref h0])).length) Slot.unset).toArray = ls at hl ⊢
  have hl : lv_has ls 1 [(0, .ref h0)] := hl
  unfold F_X5_init at h
  refine lv_aload_n hx hb dX5_init_0 rfl (lv_at hl 0 rfl) ?_
  refine W.objInit hx hb hown (ht _ wd_531) (ht _ wd_16) (ht _ wd_17) rfl (hl.1.trans hml.symm) rfl dX5_init_1 (Nat.le_of_ble_eq_true rfl) (Nat.le_of_ble_eq_true rfl) ?_
  refine W.eq (g2 := F0 m 4 ls []) rfl ?_
  refine lv_aload_n hx hb dX5_init_4 rfl (lv_at hl 0 rfl) ?_
  refine lv_bipush (v := (74 : Int32)) hx hb dX5_init_5 (by decide) ?_
  refine nw_i (N := 74) hx hb (ht _ wd_49) hK hP hD hS hA (by decide) (by decide) (Nat.le_of_ble_eq_true rfl) (Nat.le_of_ble_eq_true rfl) (Nat.le_of_ble_eq_true rfl) dX5_init_7 (fun q1 H hP hD hS => ?_)
  refine va_putF (D := D) (ci := 5) (v := .ref q1) (ty := .array .int) (C := RX5) (T := TX5) (N := 23) hx hb ht i_X5 tyX5 tyX5_ok nmX5 hown hK hP hD hS 0 rfl rfl 0 (by decide) (ht _ wd_536) (fun _ h9 => h9) rfl hin rfl (by decide +kernel) rfl rfl (Nat.le_of_ble_eq_true rfl) dX5_init_9 (fun H locs hP hD hS => ?_)
  have hP : va_P D classes ([(h0, .inr (5, [.ref q1, .null, .null, .null, .int 0, .null, .int 0, .int 0, .int 0, .int 0, .null, .null, .null, .null, .null, .null, .null, .int 0, .int 0, .int 0, .int 0, .int 0, .int 0]))] ++ [(q1, .inl (cI, 74, .inl (fun _ => 0)))]) H := hP
  have hD : va_D A ([(h0, .inr (5, [.ref q1, .null, .null, .null, .int 0, .null, .int 0, .int 0, .int 0, .int 0, .null, .null, .null, .null, .null, .null, .null, .int 0, .int 0, .int 0, .int 0, .int 0, .int 0]))] ++ [(q1, .inl (cI, 74, .inl (fun _ => 0)))]) := hD
  refine lv_aload_n hx hb dX5_init_12 rfl (lv_at hl 0 rfl) ?_
  refine lv_sipush (v := (296 : Int32)) hx hb dX5_init_13 (by decide) ?_
  refine nw_i (N := 296) hx hb (ht _ wd_49) hK hP hD hS hA (by decide) (by decide) (Nat.le_of_ble_eq_true rfl) (Nat.le_of_ble_eq_true rfl) (Nat.le_of_ble_eq_true rfl) dX5_init_16 (fun q2 H hP hD hS => ?_)
  refine va_putF (D := D) (ci := 5) (v := .ref q2) (ty := .array .int) (C := RX5) (T := TX5) (N := 23) hx hb ht i_X5 tyX5 tyX5_ok nmX5 hown hK hP hD hS 0 rfl rfl 1 (by decide) (ht _ wd_537) (fun _ h9 => h9) rfl hin rfl (by decide +kernel) rfl rfl (Nat.le_of_ble_eq_true rfl) dX5_init_18 (fun H locs hP hD hS => ?_)
  have hP : va_P D classes ([(h0, .inr (5, [.ref q1, .ref q2, .null, .null, .int 0, .null, .int 0, .int 0, .int 0, .int 0, .null, .null, .null, .null, .null, .null, .null, .int 0, .int 0, .int 0, .int 0, .int 0, .int 0]))] ++ [(q1, .inl (cI, 74, .inl (fun _ => 0)))] ++ [(q2, .inl (cI, 296, .inl (fun _ => 0)))]) H := hP
  have hD : va_D A ([(h0, .inr (5, [.ref q1, .ref q2, .null, .null, .int 0, .null, .int 0, .int 0, .int 0, .int 0, .null, .null, .null, .null, .null, .null, .null, .int 0, .int 0, .int 0, .int 0, .int 0, .int 0]))] ++ [(q1, .inl (cI, 74, .inl (fun _ => 0)))] ++ [(q2, .inl (cI, 296, .inl (fun _ => 0)))]) := hD
  refine lv_aload_n hx hb dX5_init_21 rfl (lv_at hl 0 rfl) ?_
  refine lv_bipush (v := (74 : Int32)) hx hb dX5_init_22 (by decide) ?_
  refine nw_i (N := 74) hx hb (ht _ wd_49) hK hP hD hS hA (by decide) (by decide) (Nat.le_of_ble_eq_true rfl) (Nat.le_of_ble_eq_true rfl) (Nat.le_of_ble_eq_true rfl) dX5_init_24 (fun q3 H hP hD hS => ?_)
  refine va_putF (D := D) (ci := 5) (v := .ref q3) (ty := .array .int) (C := RX5) (T := TX5) (N := 23) hx hb ht i_X5 tyX5 tyX5_ok nmX5 hown hK hP hD hS 0 rfl rfl 2 (by decide) (ht _ wd_538) (fun _ h9 => h9) rfl hin rfl (by decide +kernel) rfl rfl (Nat.le_of_ble_eq_true rfl) dX5_init_26 (fun H locs hP hD hS => ?_)
  have hP : va_P D classes ([(h0, .inr (5, [.ref q1, .ref q2, .ref q3, .null, .int 0, .null, .int 0, .int 0, .int 0, .int 0, .null, .null, .null, .null, .null, .null, .null, .int 0, .int 0, .int 0, .int 0, .int 0, .int 0]))] ++ [(q1, .inl (cI, 74, .inl (fun _ => 0)))] ++ [(q2, .inl (cI, 296, .inl (fun _ => 0)))] ++ [(q3, .inl (cI, 74, .inl (fun _ => 0)))]) H := hP
  have hD : va_D A ([(h0, .inr (5, [.ref q1, .ref q2, .ref q3, .null, .int 0, .null, .int 0, .int 0, .int 0, .int 0, .null, .null, .null, .null, .null, .null, .null, .int 0, .int 0, .int 0, .int 0, .int 0, .int 0]))] ++ [(q1, .inl (cI, 74, .inl (fun _ => 0)))] ++ [(q2, .inl (cI, 296, .inl (fun _ => 0)))] ++ [(q3, .inl (cI, 74, .inl (fun _ => 0)))]) := hD
  refine lv_aload_n hx hb dX5_init_29 rfl (lv_at hl 0 rfl) ?_
  refine lv_bipush (v := (74 : Int32)) hx hb dX5_init_30 (by decide) ?_
  refine nw_i (N := 74) hx hb (ht _ wd_49) hK hP hD hS hA (by decide) (by decide) (Nat.le_of_ble_eq_true rfl) (Nat.le_of_ble_eq_true rfl) (Nat.le_of_ble_eq_true rfl) dX5_init_32 (fun q4 H hP hD hS => ?_)
  refine va_putF (D := D) (ci := 5) (v := .ref q4) (ty := .array .int) (C := RX5) (T := TX5) (N := 23) hx hb ht i_X5 tyX5 tyX5_ok nmX5 hown hK hP hD hS 0 rfl rfl 3 (by decide) (ht _ wd_539) (fun _ h9 => h9) rfl hin rfl (by decide +kernel) rfl rfl (Nat.le_of_ble_eq_true rfl) dX5_init_34 (fun H locs hP hD hS => ?_)
  have hP : va_P D classes ([(h0, .inr (5, [.ref q1, .ref q2, .ref q3, .ref q4, .int 0, .null, .int 0, .int 0, .int 0, .int 0, .null, .null, .null, .null, .null, .null, .null, .int 0, .int 0, .int 0, .int 0, .int 0, .int 0]))] ++ [(q1, .inl (cI, 74, .inl (fun _ => 0)))] ++ [(q2, .inl (cI, 296, .inl (fun _ => 0)))] ++ [(q3, .inl (cI, 74, .inl (fun _ => 0)))] ++ [(q4, .inl (cI, 74, .inl (fun _ => 0)))]) H := hP
  have hD : va_D A ([(h0, .inr (5, [.ref q1, .ref q2, .ref q3, .ref q4, .int 0, .null, .int 0, .int 0, .int 0, .int 0, .null, .null, .null, .null, .null, .null, .null, .int 0, .int 0, .int 0, .int 0, .int 0, .int 0]))] ++ [(q1, .inl (cI, 74, .inl (fun _ => 0)))] ++ [(q2, .inl (cI, 296, .inl (fun _ => 0)))] ++ [(q3, .inl (cI, 74, .inl (fun _ => 0)))] ++ [(q4, .inl (cI, 74, .inl (fun _ => 0)))]) := hD
  refine lv_aload_n hx hb dX5_init_37 rfl (lv_at hl 0 rfl) ?_
  refine lv_bipush (v := (60 : Int32)) hx hb dX5_init_38 (by decide) ?_
  refine nw_c (N := 60) hx hb (ht _ wd_137) hK hP hD hS hA (by decide) (by decide) (Nat.le_of_ble_eq_true rfl) (Nat.le_of_ble_eq_true rfl) (Nat.le_of_ble_eq_true rfl) dX5_init_40 (fun q5 H hP hD hS => ?_)
  refine va_putF (D := D) (ci := 5) (v := .ref q5) (ty := .array .char) (C := RX5) (T := TX5) (N := 23) hx hb ht i_X5 tyX5 tyX5_ok nmX5 hown hK hP hD hS 0 rfl rfl 5 (by decide) (ht _ wd_541) (fun _ h9 => h9) rfl hin rfl (by decide +kernel) rfl rfl (Nat.le_of_ble_eq_true rfl) dX5_init_42 (fun H locs hP hD hS => ?_)
  have hP : va_P D classes ([(h0, .inr (5, [.ref q1, .ref q2, .ref q3, .ref q4, .int 0, .ref q5, .int 0, .int 0, .int 0, .int 0, .null, .null, .null, .null, .null, .null, .null, .int 0, .int 0, .int 0, .int 0, .int 0, .int 0]))] ++ [(q1, .inl (cI, 74, .inl (fun _ => 0)))] ++ [(q2, .inl (cI, 296, .inl (fun _ => 0)))] ++ [(q3, .inl (cI, 74, .inl (fun _ => 0)))] ++ [(q4, .inl (cI, 74, .inl (fun _ => 0)))] ++ [(q5, .inl (cC, 60, .inl (fun _ => 0)))]) H := hP
  have hD : va_D A ([(h0, .inr (5, [.ref q1, .ref q2, .ref q3, .ref q4, .int 0, .ref q5, .int 0, .int 0, .int 0, .int 0, .null, .null, .null, .null, .null, .null, .null, .int 0, .int 0, .int 0, .int 0, .int 0, .int 0]))] ++ [(q1, .inl (cI, 74, .inl (fun _ => 0)))] ++ [(q2, .inl (cI, 296, .inl (fun _ => 0)))] ++ [(q3, .inl (cI, 74, .inl (fun _ => 0)))] ++ [(q4, .inl (cI, 74, .inl (fun _ => 0)))] ++ [(q5, .inl (cC, 60, .inl (fun _ => 0)))]) := hD
  refine lv_aload_n hx hb dX5_init_45 rfl (lv_at hl 0 rfl) ?_
  refine lv_iconst (v := (4 : Int32)) hx hb dX5_init_46 (by decide) ?_
  refine nw_i (N := 4) hx hb (ht _ wd_49) hK hP hD hS hA (by decide) (by decide) (Nat.le_of_ble_eq_true rfl) (Nat.le_of_ble_eq_true rfl) (Nat.le_of_ble_eq_true rfl) dX5_init_47 (fun q6 H hP hD hS => ?_)
  refine va_putF (D := D) (ci := 5) (v := .ref q6) (ty := .array .int) (C := RX5) (T := TX5) (N := 23) hx hb ht i_X5 tyX5 tyX5_ok nmX5 hown hK hP hD hS 0 rfl rfl 10 (by decide) (ht _ wd_546) (fun _ h9 => h9) rfl hin rfl (by decide +kernel) rfl rfl (Nat.le_of_ble_eq_true rfl) dX5_init_49 (fun H locs hP hD hS => ?_)
  have hP : va_P D classes ([(h0, .inr (5, [.ref q1, .ref q2, .ref q3, .ref q4, .int 0, .ref q5, .int 0, .int 0, .int 0, .int 0, .ref q6, .null, .null, .null, .null, .null, .null, .int 0, .int 0, .int 0, .int 0, .int 0, .int 0]))] ++ [(q1, .inl (cI, 74, .inl (fun _ => 0)))] ++ [(q2, .inl (cI, 296, .inl (fun _ => 0)))] ++ [(q3, .inl (cI, 74, .inl (fun _ => 0)))] ++ [(q4, .inl (cI, 74, .inl (fun _ => 0)))] ++ [(q5, .inl (cC, 60, .inl (fun _ => 0)))] ++ [(q6, .inl (cI, 4, .inl (fun _ => 0)))]) H := hP
  have hD : va_D A ([(h0, .inr (5, [.ref q1, .ref q2, .ref q3, .ref q4, .int 0, .ref q5, .int 0, .int 0, .int 0, .int 0, .ref q6, .null, .null, .null, .null, .null, .null, .int 0, .int 0, .int 0, .int 0, .int 0, .int 0]))] ++ [(q1, .inl (cI, 74, .inl (fun _ => 0)))] ++ [(q2, .inl (cI, 296, .inl (fun _ => 0)))] ++ [(q3, .inl (cI, 74, .inl (fun _ => 0)))] ++ [(q4, .inl (cI, 74, .inl (fun _ => 0)))] ++ [(q5, .inl (cC, 60, .inl (fun _ => 0)))] ++ [(q6, .inl (cI, 4, .inl (fun _ => 0)))]) := hD
  refine lv_aload_n hx hb dX5_init_52 rfl (lv_at hl 0 rfl) ?_
  refine lv_bipush (v := (6 : Int32)) hx hb dX5_init_53 (by decide) ?_
  refine nw_i (N := 6) hx hb (ht _ wd_49) hK hP hD hS hA (by decide) (by decide) (Nat.le_of_ble_eq_true rfl) (Nat.le_of_ble_eq_true rfl) (Nat.le_of_ble_eq_true rfl) dX5_init_55 (fun q7 H hP hD hS => ?_)
  refine va_putF (D := D) (ci := 5) (v := .ref q7) (ty := .array .int) (C := RX5) (T := TX5) (N := 23) hx hb ht i_X5 tyX5 tyX5_ok nmX5 hown hK hP hD hS 0 rfl rfl 11 (by decide) (ht _ wd_547) (fun _ h9 => h9) rfl hin rfl (by decide +kernel) rfl rfl (Nat.le_of_ble_eq_true rfl) dX5_init_57 (fun H locs hP hD hS => ?_)
  have hP : va_P D classes ([(h0, .inr (5, [.ref q1, .ref q2, .ref q3, .ref q4, .int 0, .ref q5, .int 0, .int 0, .int 0, .int 0, .ref q6, .ref q7, .null, .null, .null, .null, .null, .int 0, .int 0, .int 0, .int 0, .int 0, .int 0]))] ++ [(q1, .inl (cI, 74, .inl (fun _ => 0)))] ++ [(q2, .inl (cI, 296, .inl (fun _ => 0)))] ++ [(q3, .inl (cI, 74, .inl (fun _ => 0)))] ++ [(q4, .inl (cI, 74, .inl (fun _ => 0)))] ++ [(q5, .inl (cC, 60, .inl (fun _ => 0)))] ++ [(q6, .inl (cI, 4, .inl (fun _ => 0)))] ++ [(q7, .inl (cI, 6, .inl (fun _ => 0)))]) H := hP
  have hD : va_D A ([(h0, .inr (5, [.ref q1, .ref q2, .ref q3, .ref q4, .int 0, .ref q5, .int 0, .int 0, .int 0, .int 0, .ref q6, .ref q7, .null, .null, .null, .null, .null, .int 0, .int 0, .int 0, .int 0, .int 0, .int 0]))] ++ [(q1, .inl (cI, 74, .inl (fun _ => 0)))] ++ [(q2, .inl (cI, 296, .inl (fun _ => 0)))] ++ [(q3, .inl (cI, 74, .inl (fun _ => 0)))] ++ [(q4, .inl (cI, 74, .inl (fun _ => 0)))] ++ [(q5, .inl (cC, 60, .inl (fun _ => 0)))] ++ [(q6, .inl (cI, 4, .inl (fun _ => 0)))] ++ [(q7, .inl (cI, 6, .inl (fun _ => 0)))]) := hD
  refine lv_aload_n hx hb dX5_init_60 rfl (lv_at hl 0 rfl) ?_
  refine lv_bipush (v := (96 : Int32)) hx hb dX5_init_61 (by decide) ?_
  refine nw_i (N := 96) hx hb (ht _ wd_49) hK hP hD hS hA (by decide) (by decide) (Nat.le_of_ble_eq_true rfl) (Nat.le_of_ble_eq_true rfl) (Nat.le_of_ble_eq_true rfl) dX5_init_63 (fun q8 H hP hD hS => ?_)
  refine va_putF (D := D) (ci := 5) (v := .ref q8) (ty := .array .int) (C := RX5) (T := TX5) (N := 23) hx hb ht i_X5 tyX5 tyX5_ok nmX5 hown hK hP hD hS 0 rfl rfl 12 (by decide) (ht _ wd_548) (fun _ h9 => h9) rfl hin rfl (by decide +kernel) rfl rfl (Nat.le_of_ble_eq_true rfl) dX5_init_65 (fun H locs hP hD hS => ?_)
  have hP : va_P D classes ([(h0, .inr (5, [.ref q1, .ref q2, .ref q3, .ref q4, .int 0, .ref q5, .int 0, .int 0, .int 0, .int 0, .ref q6, .ref q7, .ref q8, .null, .null, .null, .null, .int 0, .int 0, .int 0, .int 0, .int 0, .int 0]))] ++ [(q1, .inl (cI, 74, .inl (fun _ => 0)))] ++ [(q2, .inl (cI, 296, .inl (fun _ => 0)))] ++ [(q3, .inl (cI, 74, .inl (fun _ => 0)))] ++ [(q4, .inl (cI, 74, .inl (fun _ => 0)))] ++ [(q5, .inl (cC, 60, .inl (fun _ => 0)))] ++ [(q6, .inl (cI, 4, .inl (fun _ => 0)))] ++ [(q7, .inl (cI, 6, .inl (fun _ => 0)))] ++ [(q8, .inl (cI, 96, .inl (fun _ => 0)))]) H := hP
  have hD : va_D A ([(h0, .inr (5, [.ref q1, .ref q2, .ref q3, .ref q4, .int 0, .ref q5, .int 0, .int 0, .int 0, .int 0, .ref q6, .ref q7, .ref q8, .null, .null, .null, .null, .int 0, .int 0, .int 0, .int 0, .int 0, .int 0]))] ++ [(q1, .inl (cI, 74, .inl (fun _ => 0)))] ++ [(q2, .inl (cI, 296, .inl (fun _ => 0)))] ++ [(q3, .inl (cI, 74, .inl (fun _ => 0)))] ++ [(q4, .inl (cI, 74, .inl (fun _ => 0)))] ++ [(q5, .inl (cC, 60, .inl (fun _ => 0)))] ++ [(q6, .inl (cI, 4, .inl (fun _ => 0)))] ++ [(q7, .inl (cI, 6, .inl (fun _ => 0)))] ++ [(q8, .inl (cI, 96, .inl (fun _ => 0)))]) := hD
  refine lv_aload_n hx hb dX5_init_68 rfl (lv_at hl 0 rfl) ?_
  refine lv_sipush (v := (160 : Int32)) hx hb dX5_init_69 (by decide) ?_
  refine nw_i (N := 160) hx hb (ht _ wd_49) hK hP hD hS hA (by decide) (by decide) (Nat.le_of_ble_eq_true rfl) (Nat.le_of_ble_eq_true rfl) (Nat.le_of_ble_eq_true rfl) dX5_init_72 (fun q9 H hP hD hS => ?_)
  refine va_putF (D := D) (ci := 5) (v := .ref q9) (ty := .array .int) (C := RX5) (T := TX5) (N := 23) hx hb ht i_X5 tyX5 tyX5_ok nmX5 hown hK hP hD hS 0 rfl rfl 13 (by decide) (ht _ wd_549) (fun _ h9 => h9) rfl hin rfl (by decide +kernel) rfl rfl (Nat.le_of_ble_eq_true rfl) dX5_init_74 (fun H locs hP hD hS => ?_)
  have hP : va_P D classes ([(h0, .inr (5, [.ref q1, .ref q2, .ref q3, .ref q4, .int 0, .ref q5, .int 0, .int 0, .int 0, .int 0, .ref q6, .ref q7, .ref q8, .ref q9, .null, .null, .null, .int 0, .int 0, .int 0, .int 0, .int 0, .int 0]))] ++ [(q1, .inl (cI, 74, .inl (fun _ => 0)))] ++ [(q2, .inl (cI, 296, .inl (fun _ => 0)))] ++ [(q3, .inl (cI, 74, .inl (fun _ => 0)))] ++ [(q4, .inl (cI, 74, .inl (fun _ => 0)))] ++ [(q5, .inl (cC, 60, .inl (fun _ => 0)))] ++ [(q6, .inl (cI, 4, .inl (fun _ => 0)))] ++ [(q7, .inl (cI, 6, .inl (fun _ => 0)))] ++ [(q8, .inl (cI, 96, .inl (fun _ => 0)))] ++ [(q9, .inl (cI, 160, .inl (fun _ => 0)))]) H := hP
  have hD : va_D A ([(h0, .inr (5, [.ref q1, .ref q2, .ref q3, .ref q4, .int 0, .ref q5, .int 0, .int 0, .int 0, .int 0, .ref q6, .ref q7, .ref q8, .ref q9, .null, .null, .null, .int 0, .int 0, .int 0, .int 0, .int 0, .int 0]))] ++ [(q1, .inl (cI, 74, .inl (fun _ => 0)))] ++ [(q2, .inl (cI, 296, .inl (fun _ => 0)))] ++ [(q3, .inl (cI, 74, .inl (fun _ => 0)))] ++ [(q4, .inl (cI, 74, .inl (fun _ => 0)))] ++ [(q5, .inl (cC, 60, .inl (fun _ => 0)))] ++ [(q6, .inl (cI, 4, .inl (fun _ => 0)))] ++ [(q7, .inl (cI, 6, .inl (fun _ => 0)))] ++ [(q8, .inl (cI, 96, .inl (fun _ => 0)))] ++ [(q9, .inl (cI, 160, .inl (fun _ => 0)))]) := hD
  refine lv_aload_n hx hb dX5_init_77 rfl (lv_at hl 0 rfl) ?_
  refine lv_bipush (v := (96 : Int32)) hx hb dX5_init_78 (by decide) ?_
  refine nw_i (N := 96) hx hb (ht _ wd_49) hK hP hD hS hA (by decide) (by decide) (Nat.le_of_ble_eq_true rfl) (Nat.le_of_ble_eq_true rfl) (Nat.le_of_ble_eq_true rfl) dX5_init_80 (fun q10 H hP hD hS => ?_)
  refine va_putF (D := D) (ci := 5) (v := .ref q10) (ty := .array .int) (C := RX5) (T := TX5) (N := 23) hx hb ht i_X5 tyX5 tyX5_ok nmX5 hown hK hP hD hS 0 rfl rfl 14 (by decide) (ht _ wd_550) (fun _ h9 => h9) rfl hin rfl (by decide +kernel) rfl rfl (Nat.le_of_ble_eq_true rfl) dX5_init_82 (fun H locs hP hD hS => ?_)
  have hP : va_P D classes ([(h0, .inr (5, [.ref q1, .ref q2, .ref q3, .ref q4, .int 0, .ref q5, .int 0, .int 0, .int 0, .int 0, .ref q6, .ref q7, .ref q8, .ref q9, .ref q10, .null, .null, .int 0, .int 0, .int 0, .int 0, .int 0, .int 0]))] ++ [(q1, .inl (cI, 74, .inl (fun _ => 0)))] ++ [(q2, .inl (cI, 296, .inl (fun _ => 0)))] ++ [(q3, .inl (cI, 74, .inl (fun _ => 0)))] ++ [(q4, .inl (cI, 74, .inl (fun _ => 0)))] ++ [(q5, .inl (cC, 60, .inl (fun _ => 0)))] ++ [(q6, .inl (cI, 4, .inl (fun _ => 0)))] ++ [(q7, .inl (cI, 6, .inl (fun _ => 0)))] ++ [(q8, .inl (cI, 96, .inl (fun _ => 0)))] ++ [(q9, .inl (cI, 160, .inl (fun _ => 0)))] ++ [(q10, .inl (cI, 96, .inl (fun _ => 0)))]) H := hP
  have hD : va_D A ([(h0, .inr (5, [.ref q1, .ref q2, .ref q3, .ref q4, .int 0, .ref q5, .int 0, .int 0, .int 0, .int 0, .ref q6, .ref q7, .ref q8, .ref q9, .ref q10, .null, .null, .int 0, .int 0, .int 0, .int 0, .int 0, .int 0]))] ++ [(q1, .inl (cI, 74, .inl (fun _ => 0)))] ++ [(q2, .inl (cI, 296, .inl (fun _ => 0)))] ++ [(q3, .inl (cI, 74, .inl (fun _ => 0)))] ++ [(q4, .inl (cI, 74, .inl (fun _ => 0)))] ++ [(q5, .inl (cC, 60, .inl (fun _ => 0)))] ++ [(q6, .inl (cI, 4, .inl (fun _ => 0)))] ++ [(q7, .inl (cI, 6, .inl (fun _ => 0)))] ++ [(q8, .inl (cI, 96, .inl (fun _ => 0)))] ++ [(q9, .inl (cI, 160, .inl (fun _ => 0)))] ++ [(q10, .inl (cI, 96, .inl (fun _ => 0)))]) := hD
  refine lv_aload_n hx hb dX5_init_85 rfl (lv_at hl 0 rfl) ?_
  refine lv_bipush (v := (96 : Int32)) hx hb dX5_init_86 (by decide) ?_
  refine nw_i (N := 96) hx hb (ht _ wd_49) hK hP hD hS hA (by decide) (by decide) (Nat.le_of_ble_eq_true rfl) (Nat.le_of_ble_eq_true rfl) (Nat.le_of_ble_eq_true rfl) dX5_init_88 (fun q11 H hP hD hS => ?_)
  refine va_putF (D := D) (ci := 5) (v := .ref q11) (ty := .array .int) (C := RX5) (T := TX5) (N := 23) hx hb ht i_X5 tyX5 tyX5_ok nmX5 hown hK hP hD hS 0 rfl rfl 15 (by decide) (ht _ wd_551) (fun _ h9 => h9) rfl hin rfl (by decide +kernel) rfl rfl (Nat.le_of_ble_eq_true rfl) dX5_init_90 (fun H locs hP hD hS => ?_)
  have hP : va_P D classes ([(h0, .inr (5, [.ref q1, .ref q2, .ref q3, .ref q4, .int 0, .ref q5, .int 0, .int 0, .int 0, .int 0, .ref q6, .ref q7, .ref q8, .ref q9, .ref q10, .ref q11, .null, .int 0, .int 0, .int 0, .int 0, .int 0, .int 0]))] ++ [(q1, .inl (cI, 74, .inl (fun _ => 0)))] ++ [(q2, .inl (cI, 296, .inl (fun _ => 0)))] ++ [(q3, .inl (cI, 74, .inl (fun _ => 0)))] ++ [(q4, .inl (cI, 74, .inl (fun _ => 0)))] ++ [(q5, .inl (cC, 60, .inl (fun _ => 0)))] ++ [(q6, .inl (cI, 4, .inl (fun _ => 0)))] ++ [(q7, .inl (cI, 6, .inl (fun _ => 0)))] ++ [(q8, .inl (cI, 96, .inl (fun _ => 0)))] ++ [(q9, .inl (cI, 160, .inl (fun _ => 0)))] ++ [(q10, .inl (cI, 96, .inl (fun _ => 0)))] ++ [(q11, .inl (cI, 96, .inl (fun _ => 0)))]) H := hP
  have hD : va_D A ([(h0, .inr (5, [.ref q1, .ref q2, .ref q3, .ref q4, .int 0, .ref q5, .int 0, .int 0, .int 0, .int 0, .ref q6, .ref q7, .ref q8, .ref q9, .ref q10, .ref q11, .null, .int 0, .int 0, .int 0, .int 0, .int 0, .int 0]))] ++ [(q1, .inl (cI, 74, .inl (fun _ => 0)))] ++ [(q2, .inl (cI, 296, .inl (fun _ => 0)))] ++ [(q3, .inl (cI, 74, .inl (fun _ => 0)))] ++ [(q4, .inl (cI, 74, .inl (fun _ => 0)))] ++ [(q5, .inl (cC, 60, .inl (fun _ => 0)))] ++ [(q6, .inl (cI, 4, .inl (fun _ => 0)))] ++ [(q7, .inl (cI, 6, .inl (fun _ => 0)))] ++ [(q8, .inl (cI, 96, .inl (fun _ => 0)))] ++ [(q9, .inl (cI, 160, .inl (fun _ => 0)))] ++ [(q10, .inl (cI, 96, .inl (fun _ => 0)))] ++ [(q11, .inl (cI, 96, .inl (fun _ => 0)))]) := hD
  refine lv_aload_n hx hb dX5_init_93 rfl (lv_at hl 0 rfl) ?_
  refine lv_bipush (v := (96 : Int32)) hx hb dX5_init_94 (by decide) ?_
  refine nw_i (N := 96) hx hb (ht _ wd_49) hK hP hD hS hA (by decide) (by decide) (Nat.le_of_ble_eq_true rfl) (Nat.le_of_ble_eq_true rfl) (Nat.le_of_ble_eq_true rfl) dX5_init_96 (fun q12 H hP hD hS => ?_)
  refine va_putF (D := D) (ci := 5) (v := .ref q12) (ty := .array .int) (C := RX5) (T := TX5) (N := 23) hx hb ht i_X5 tyX5 tyX5_ok nmX5 hown hK hP hD hS 0 rfl rfl 16 (by decide) (ht _ wd_552) (fun _ h9 => h9) rfl hin rfl (by decide +kernel) rfl rfl (Nat.le_of_ble_eq_true rfl) dX5_init_98 (fun H locs hP hD hS => ?_)
  have hP : va_P D classes ([(h0, .inr (5, [.ref q1, .ref q2, .ref q3, .ref q4, .int 0, .ref q5, .int 0, .int 0, .int 0, .int 0, .ref q6, .ref q7, .ref q8, .ref q9, .ref q10, .ref q11, .ref q12, .int 0, .int 0, .int 0, .int 0, .int 0, .int 0]))] ++ [(q1, .inl (cI, 74, .inl (fun _ => 0)))] ++ [(q2, .inl (cI, 296, .inl (fun _ => 0)))] ++ [(q3, .inl (cI, 74, .inl (fun _ => 0)))] ++ [(q4, .inl (cI, 74, .inl (fun _ => 0)))] ++ [(q5, .inl (cC, 60, .inl (fun _ => 0)))] ++ [(q6, .inl (cI, 4, .inl (fun _ => 0)))] ++ [(q7, .inl (cI, 6, .inl (fun _ => 0)))] ++ [(q8, .inl (cI, 96, .inl (fun _ => 0)))] ++ [(q9, .inl (cI, 160, .inl (fun _ => 0)))] ++ [(q10, .inl (cI, 96, .inl (fun _ => 0)))] ++ [(q11, .inl (cI, 96, .inl (fun _ => 0)))] ++ [(q12, .inl (cI, 96, .inl (fun _ => 0)))]) H := hP
  have hD : va_D A ([(h0, .inr (5, [.ref q1, .ref q2, .ref q3, .ref q4, .int 0, .ref q5, .int 0, .int 0, .int 0, .int 0, .ref q6, .ref q7, .ref q8, .ref q9, .ref q10, .ref q11, .ref q12, .int 0, .int 0, .int 0, .int 0, .int 0, .int 0]))] ++ [(q1, .inl (cI, 74, .inl (fun _ => 0)))] ++ [(q2, .inl (cI, 296, .inl (fun _ => 0)))] ++ [(q3, .inl (cI, 74, .inl (fun _ => 0)))] ++ [(q4, .inl (cI, 74, .inl (fun _ => 0)))] ++ [(q5, .inl (cC, 60, .inl (fun _ => 0)))] ++ [(q6, .inl (cI, 4, .inl (fun _ => 0)))] ++ [(q7, .inl (cI, 6, .inl (fun _ => 0)))] ++ [(q8, .inl (cI, 96, .inl (fun _ => 0)))] ++ [(q9, .inl (cI, 160, .inl (fun _ => 0)))] ++ [(q10, .inl (cI, 96, .inl (fun _ => 0)))] ++ [(q11, .inl (cI, 96, .inl (fun _ => 0)))] ++ [(q12, .inl (cI, 96, .inl (fun _ => 0)))]) := hD
  obtain ⟨a, haa⟩ : ∃ a : Nat → Nat, a = fun k : Nat => if k = 0 then h0 else if k = 1 then q1 else if k = 2 then q2 else if k = 3 then q3 else if k = 4 then q4 else if k = 5 then q5 else if k = 6 then q6 else if k = 7 then q7 else if k = 8 then q8 else if k = 9 then q9 else if k = 10 then q10 else if k = 11 then q11 else q12 := ⟨_, rfl⟩
  have hP : va_P D classes (wX5 a cI cC cO zz) H := by rw [haa]; exact hP
  have hD : va_D A (wX5 a cI cC cO zz) := by rw [haa]; exact hD
  have e0 : h0 = a 0 := by rw [haa]; rfl
  rw [e0] at hl ht hAe ⊢
  refine lv_aload_n hx hb dX5_init_101 rfl (lv_at hl 0 rfl) ?_
  refine va_get (D := D) (ci := 5) (v := .ref (a 1)) (C := RX5) (T := TX5) (N := 23) hx hb ht i_X5 hown hK hP 0 rfl rfl 0 (by decide) (ht _ wd_536) (fun _ h9 => h9) rfl dX5_init_102 ?_
  refine lv_iconst (v := (0 : Int32)) hx hb dX5_init_105 (by decide) ?_
  refine lv_iconst (v := (1 : Int32)) hx hb dX5_init_106 (by decide) ?_
  obtain ⟨i101, h⟩ := ck_ok h
  refine va_iast hx hb hK hP hD hS 1 0 rfl rfl i101 dX5_init_107 (fun H locs hP hD hS => ?_)
  obtain ⟨M102, e103, h⟩ := sv_ok h
  have hP : va_P D classes (wX5 a cI cC cO M102) H := by rw [← e103]; exact hP
  have hD : va_D A (wX5 a cI cC cO M102) := by rw [← e103]; exact hD
  refine lv_aload_n hx hb dX5_init_108 rfl (lv_at hl 0 rfl) ?_
  refine va_get (D := D) (ci := 5) (v := .ref (a 1)) (C := RX5) (T := TX5) (N := 23) hx hb ht i_X5 hown hK hP 0 rfl rfl 0 (by decide) (ht _ wd_536) (fun _ h9 => h9) rfl dX5_init_109 ?_
  refine lv_iconst (v := (3 : Int32)) hx hb dX5_init_112 (by decide) ?_
  refine lv_bipush (v := (40 : Int32)) hx hb dX5_init_113 (by decide) ?_
  obtain ⟨i104, h⟩ := ck_ok h
  refine va_iast hx hb hK hP hD hS 1 0 rfl rfl i104 dX5_init_115 (fun H locs hP hD hS => ?_)
  obtain ⟨M105, e106, h⟩ := sv_ok h
  have hP : va_P D classes (wX5 a cI cC cO M105) H := by rw [← e106]; exact hP
  have hD : va_D A (wX5 a cI cC cO M105) := by rw [← e106]; exact hD
  refine lv_aload_n hx hb dX5_init_116 rfl (lv_at hl 0 rfl) ?_
  obtain ⟨M107, e108, h⟩ := b1_ok h
  refine cl_Vv (ws' := (wX5 a cI cC cO M107)) ⟨hx, hb, hml, hown, ht⟩ (c_X5_asIs l D cI cC cO a M105 _ _ e108) (cwv 0 ht wd_535 wd_6 wd_532 wd_534 ws_19 (by decide +kernel) rfl rfl ⟨Nat.le_of_ble_eq_true rfl, Nat.le_of_ble_eq_true rfl⟩) 5 0 rfl rfl rfl hK hP hD hS hA hN [0, 1, 2, 3, 4, 5, 6, 7, 8, 9, 10, 11, 12] [] [0, 1, 2, 3, 4, 5, 6, 7, 8, 9, 10, 11, 12] (by decide) rfl rfl (by decide) (by decide) rfl (by decide) rfl hl.1 rfl (Nat.le_of_ble_eq_true rfl) dX5_init_117 ⟨Nat.le_of_ble_eq_true rfl, Nat.le_of_ble_eq_true rfl⟩ (fun H locs hP hD hS => ?_)
  cases h
  exact rt_c a rfl hx hb hr hlocks hS hP hK hD dX5_init_120
