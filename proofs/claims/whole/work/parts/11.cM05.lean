theorem dX5_does_0 : decode cX5_does 0 = .ok (.iload_n 1, 1) := by decide +kernel
theorem dX5_does_1 : decode cX5_does 1 = .ok (.lookupswitch 104 #[(104, 35), (111, 81), (112, 52)], 35) := by decide +kernel
theorem dX5_does_36 : decode cX5_does 36 = .ok (.aload_n 0, 1) := by decide +kernel
theorem dX5_does_37 : decode cX5_does 37 = .ok (.aload_n 0, 1) := by decide +kernel
theorem dX5_does_38 : decode cX5_does 38 = .ok (.getfield 26, 3) := by decide +kernel
theorem dX5_does_41 : decode cX5_does 41 = .ok (.iconst 0, 1) := by decide +kernel
theorem dX5_does_42 : decode cX5_does 42 = .ok (.iaload, 1) := by decide +kernel
theorem dX5_does_43 : decode cX5_does 43 = .ok (.aload_n 0, 1) := by decide +kernel
theorem dX5_does_44 : decode cX5_does 44 = .ok (.getfield 26, 3) := by decide +kernel
theorem dX5_does_47 : decode cX5_does 47 = .ok (.iconst 1, 1) := by decide +kernel
theorem dX5_does_48 : decode cX5_does 48 = .ok (.iaload, 1) := by decide +kernel
theorem dX5_does_49 : decode cX5_does 49 = .ok (.invokevirtual 75, 3) := by decide +kernel
theorem dX5_does_52 : decode cX5_does 52 = .ok (.ireturn, 1) := by decide +kernel
theorem dX5_does_53 : decode cX5_does 53 = .ok (.aload_n 0, 1) := by decide +kernel
theorem dX5_does_54 : decode cX5_does 54 = .ok (.aload_n 0, 1) := by decide +kernel
theorem dX5_does_55 : decode cX5_does 55 = .ok (.getfield 26, 3) := by decide +kernel
theorem dX5_does_58 : decode cX5_does 58 = .ok (.iconst 0, 1) := by decide +kernel
theorem dX5_does_59 : decode cX5_does 59 = .ok (.iaload, 1) := by decide +kernel
theorem dX5_does_60 : decode cX5_does 60 = .ok (.aload_n 0, 1) := by decide +kernel
theorem dX5_does_61 : decode cX5_does 61 = .ok (.getfield 26, 3) := by decide +kernel
theorem dX5_does_64 : decode cX5_does 64 = .ok (.iconst 1, 1) := by decide +kernel
theorem dX5_does_65 : decode cX5_does 65 = .ok (.iaload, 1) := by decide +kernel
theorem dX5_does_66 : decode cX5_does 66 = .ok (.aload_n 0, 1) := by decide +kernel
theorem dX5_does_67 : decode cX5_does 67 = .ok (.getfield 26, 3) := by decide +kernel
theorem dX5_does_70 : decode cX5_does 70 = .ok (.iconst 2, 1) := by decide +kernel
theorem dX5_does_71 : decode cX5_does 71 = .ok (.iaload, 1) := by decide +kernel
theorem dX5_does_72 : decode cX5_does 72 = .ok (.aload_n 0, 1) := by decide +kernel
theorem dX5_does_73 : decode cX5_does 73 = .ok (.getfield 26, 3) := by decide +kernel
theorem dX5_does_76 : decode cX5_does 76 = .ok (.iconst 3, 1) := by decide +kernel
theorem dX5_does_77 : decode cX5_does 77 = .ok (.iaload, 1) := by decide +kernel
theorem dX5_does_78 : decode cX5_does 78 = .ok (.invokevirtual 87, 3) := by decide +kernel
theorem dX5_does_81 : decode cX5_does 81 = .ok (.ireturn, 1) := by decide +kernel
theorem dX5_does_82 : decode cX5_does 82 = .ok (.aload_n 0, 1) := by decide +kernel
theorem dX5_does_83 : decode cX5_does 83 = .ok (.aload_n 0, 1) := by decide +kernel
theorem dX5_does_84 : decode cX5_does 84 = .ok (.getfield 26, 3) := by decide +kernel
theorem dX5_does_87 : decode cX5_does 87 = .ok (.iconst 0, 1) := by decide +kernel
theorem dX5_does_88 : decode cX5_does 88 = .ok (.iaload, 1) := by decide +kernel
theorem dX5_does_89 : decode cX5_does 89 = .ok (.aload_n 0, 1) := by decide +kernel
theorem dX5_does_90 : decode cX5_does 90 = .ok (.getfield 26, 3) := by decide +kernel
theorem dX5_does_93 : decode cX5_does 93 = .ok (.iconst 1, 1) := by decide +kernel
theorem dX5_does_94 : decode cX5_does 94 = .ok (.iaload, 1) := by decide +kernel
theorem dX5_does_95 : decode cX5_does 95 = .ok (.aload_n 0, 1) := by decide +kernel
theorem dX5_does_96 : decode cX5_does 96 = .ok (.getfield 26, 3) := by decide +kernel
theorem dX5_does_99 : decode cX5_does 99 = .ok (.iconst 2, 1) := by decide +kernel
theorem dX5_does_100 : decode cX5_does 100 = .ok (.iaload, 1) := by decide +kernel
theorem dX5_does_101 : decode cX5_does 101 = .ok (.invokevirtual 94, 3) := by decide +kernel
theorem dX5_does_104 : decode cX5_does 104 = .ok (.ireturn, 1) := by decide +kernel
theorem dX5_does_105 : decode cX5_does 105 = .ok (.aload_n 0, 1) := by decide +kernel
theorem dX5_does_106 : decode cX5_does 106 = .ok (.iconst 2, 1) := by decide +kernel
theorem dX5_does_107 : decode cX5_does 107 = .ok (.iconst 2, 1) := by decide +kernel
theorem dX5_does_108 : decode cX5_does 108 = .ok (.aload_n 0, 1) := by decide +kernel
theorem dX5_does_109 : decode cX5_does 109 = .ok (.getfield 26, 3) := by decide +kernel
theorem dX5_does_112 : decode cX5_does 112 = .ok (.iconst 0, 1) := by decide +kernel
theorem dX5_does_113 : decode cX5_does 113 = .ok (.iaload, 1) := by decide +kernel
theorem dX5_does_114 : decode cX5_does 114 = .ok (.imul, 1) := by decide +kernel
theorem dX5_does_115 : decode cX5_does 115 = .ok (.iadd, 1) := by decide +kernel
theorem dX5_does_116 : decode cX5_does 116 = .ok (.aload_n 0, 1) := by decide +kernel
theorem dX5_does_117 : decode cX5_does 117 = .ok (.getfield 26, 3) := by decide +kernel
theorem dX5_does_120 : decode cX5_does 120 = .ok (.iconst 1, 1) := by decide +kernel
theorem dX5_does_121 : decode cX5_does 121 = .ok (.iaload, 1) := by decide +kernel
theorem dX5_does_122 : decode cX5_does 122 = .ok (.invokevirtual 98, 3) := by decide +kernel
theorem dX5_does_125 : decode cX5_does 125 = .ok (.ireturn, 1) := by decide +kernel
set_option maxHeartbeats 4000000 in
set_option maxRecDepth 100000 in
theorem c_X5_does (l : Launch) (D : va_G) (cI cC cO : ClassId) (a : Nat → Nat) (M : Mm) (x1 : Int32) (res : Int32 × Mm) (sz : Nat) (h : F_X5_does M x1 = some res) : Met l yX5_does (Cond.code yX5_does cX5_does 2 (Option.some Jvm.ClassFile.FieldType.int) :: lw_g) ({ frames := 1, cells := 0, slots := 0, locals := 25 } : Room) (va_Pc [.ref (a 0), .int x1] (pS D cI cC cO sz (wX5 a cI cC cO M))) (QI D cI cC cO (va_A (wX5 a cI cC cO M) sz) (wX5 a cI cC cO res.2) res.1) 0 0 (va_A (wX5 a cI cC cO M) sz) := by
  refine Met.ofW (cc := cX5_does) (maxL := 2) (ret := (Option.some Jvm.ClassFile.FieldType.int)) (by decide) rfl ?_
  intro p e s m args below meth c s₁ B hml hv
  obtain ⟨rfl, rfl, hP, hK, hD0, hN⟩ := hv
  have hx := B.exec
  have hb := B.bytes
  have hr := B.returns
  have ht : ∀ w ∈ lw_g, w.before ([.ref (a 0), .int x1] : List Value).toArray s = true := fun w hw => atoms_spec (ws := Cond.code yX5_does cX5_does 2 (Option.some Jvm.ClassFile.FieldType.int) :: lw_g) B.pre w (List.mem_cons_of_mem _ hw)
  have hown : s.vm.findClass RX5 = some m.cls := findClass_of_methodNamed B.named
  have hlocks := B.notSynchronized
  have hD := hD0.self (sz := s.heap.size)
  generalize hAe : va_A (wX5 a cI cC cO M) s.heap.size = A at hD ⊢
  have hA : ∀ q : Nat, s.heap.size ≤ q → A q := fun q hq => by rw [← hAe]; exact Or.inr hq
  have hS : va_S A s.heap s.heap [] := va_S.rf
  have hl := lv_entry ([.ref (a 0), .int x1]) (n := 2) (Nat.le_of_ble_eq_true rfl)
  rw [lg_entry_eq]
  generalize (lg_sl ([.ref (a 0), .int x1]) ++ List.replicate (2 - (lg_sl ([.ref (a 0), .int x1])).length) Slot.unset).toArray = ls at hl ⊢
  have hl : lv_has ls 2 [(0, .ref (a 0)), (1, .int x1)] := hl
  unfold F_X5_does at h
  refine lv_iload_n hx hb dX5_does_0 rfl (lv_at hl 1 rfl) ?_
  by_cases c1 : x1 = (104 : Int32)
  · replace h := fp c1 h
    refine lv_lookup (off := 35) (tgt := 36) hx hb dX5_does_1 (by decide) (by rw [c1]; decide) (by decide) ?_
    refine lv_aload_n hx hb dX5_does_36 rfl (lv_at hl 0 rfl) ?_
    refine lv_aload_n hx hb dX5_does_37 rfl (lv_at hl 0 rfl) ?_
    refine va_get (D := D) (ci := 5) (v := .ref (a 6)) (C := RX5) (T := TX5) (N := 23) hx hb ht i_X5 hown hK hP 0 rfl rfl 10 (by decide) (ht _ wd_546) (fun _ h9 => h9) rfl dX5_does_38 ?_
    refine lv_iconst (v := (0 : Int32)) hx hb dX5_does_41 (by decide) ?_
    obtain ⟨i2, h⟩ := ck_ok h
    refine va_iald hx hb hK hP 6 0 rfl rfl i2 dX5_does_42 ?_
    refine lv_aload_n hx hb dX5_does_43 rfl (lv_at hl 0 rfl) ?_
    refine va_get (D := D) (ci := 5) (v := .ref (a 6)) (C := RX5) (T := TX5) (N := 23) hx hb ht i_X5 hown hK hP 0 rfl rfl 10 (by decide) (ht _ wd_546) (fun _ h9 => h9) rfl dX5_does_44 ?_
    refine lv_iconst (v := (1 : Int32)) hx hb dX5_does_47 (by decide) ?_
    obtain ⟨i3, h⟩ := ck_ok h
    refine va_iald hx hb hK hP 6 0 rfl rfl i3 dX5_does_48 ?_
    obtain ⟨u4, M5, e6, h⟩ := b2_ok h
    refine cl_Vi (ws' := (wX5 a cI cC cO M5)) ⟨hx, hb, hml, hown, ht⟩ (c_X5_adds l D cI cC cO a M (M 5 (0 : Int32).toNatClampNeg) (M 5 (1 : Int32).toNatClampNeg) _ _ e6) (cwv 2 ht wd_621 wd_6 wd_618 wd_620 ws_21 (by decide +kernel) rfl rfl ⟨Nat.le_of_ble_eq_true rfl, Nat.le_of_ble_eq_true rfl⟩) 5 0 rfl rfl rfl hK hP hD hS hA hN [0, 1, 2, 3, 4, 5, 6, 7, 8, 9, 10, 11, 12] [] [0, 1, 2, 3, 4, 5, 6, 7, 8, 9, 10, 11, 12] (by decide) rfl rfl (by decide) (by decide) rfl (by decide) rfl hl.1 rfl (Nat.le_of_ble_eq_true rfl) dX5_does_49 ⟨Nat.le_of_ble_eq_true rfl, Nat.le_of_ble_eq_true rfl⟩ (fun H locs hP hD hS => ?_)
    cases h
    exact rt_i hx hb hr hlocks hS hP hK hD dX5_does_52
  · replace h := fn c1 h
    by_cases c7 : x1 = (111 : Int32)
    · replace h := fp c7 h
      refine lv_lookup (off := 81) (tgt := 82) hx hb dX5_does_1 (by decide) (by rw [c7]; decide) (by decide) ?_
      refine lv_aload_n hx hb dX5_does_82 rfl (lv_at hl 0 rfl) ?_
      refine lv_aload_n hx hb dX5_does_83 rfl (lv_at hl 0 rfl) ?_
      refine va_get (D := D) (ci := 5) (v := .ref (a 6)) (C := RX5) (T := TX5) (N := 23) hx hb ht i_X5 hown hK hP 0 rfl rfl 10 (by decide) (ht _ wd_546) (fun _ h9 => h9) rfl dX5_does_84 ?_
      refine lv_iconst (v := (0 : Int32)) hx hb dX5_does_87 (by decide) ?_
      obtain ⟨i8, h⟩ := ck_ok h
      refine va_iald hx hb hK hP 6 0 rfl rfl i8 dX5_does_88 ?_
      refine lv_aload_n hx hb dX5_does_89 rfl (lv_at hl 0 rfl) ?_
      refine va_get (D := D) (ci := 5) (v := .ref (a 6)) (C := RX5) (T := TX5) (N := 23) hx hb ht i_X5 hown hK hP 0 rfl rfl 10 (by decide) (ht _ wd_546) (fun _ h9 => h9) rfl dX5_does_90 ?_
      refine lv_iconst (v := (1 : Int32)) hx hb dX5_does_93 (by decide) ?_
      obtain ⟨i9, h⟩ := ck_ok h
      refine va_iald hx hb hK hP 6 0 rfl rfl i9 dX5_does_94 ?_
      refine lv_aload_n hx hb dX5_does_95 rfl (lv_at hl 0 rfl) ?_
      refine va_get (D := D) (ci := 5) (v := .ref (a 6)) (C := RX5) (T := TX5) (N := 23) hx hb ht i_X5 hown hK hP 0 rfl rfl 10 (by decide) (ht _ wd_546) (fun _ h9 => h9) rfl dX5_does_96 ?_
      refine lv_iconst (v := (2 : Int32)) hx hb dX5_does_99 (by decide) ?_
      obtain ⟨i10, h⟩ := ck_ok h
      refine va_iald hx hb hK hP 6 0 rfl rfl i10 dX5_does_100 ?_
      obtain ⟨u11, M12, e13, h⟩ := b2_ok h
      refine cl_Vi (ws' := (wX5 a cI cC cO M12)) ⟨hx, hb, hml, hown, ht⟩ (c_X5_opens l D cI cC cO a M (M 5 (0 : Int32).toNatClampNeg) (M 5 (1 : Int32).toNatClampNeg) (M 5 (2 : Int32).toNatClampNeg) _ _ e13) (cwv 3 ht wd_654 wd_6 wd_651 wd_653 ws_26 (by decide +kernel) rfl rfl ⟨Nat.le_of_ble_eq_true rfl, Nat.le_of_ble_eq_true rfl⟩) 5 0 rfl rfl rfl hK hP hD hS hA hN [0, 1, 2, 3, 4, 5, 6, 7, 8, 9, 10, 11, 12] [] [0, 1, 2, 3, 4, 5, 6, 7, 8, 9, 10, 11, 12] (by decide) rfl rfl (by decide) (by decide) rfl (by decide) rfl hl.1 rfl (Nat.le_of_ble_eq_true rfl) dX5_does_101 ⟨Nat.le_of_ble_eq_true rfl, Nat.le_of_ble_eq_true rfl⟩ (fun H locs hP hD hS => ?_)
      cases h
      exact rt_i hx hb hr hlocks hS hP hK hD dX5_does_104
    · replace h := fn c7 h
      by_cases c14 : x1 = (112 : Int32)
      · replace h := fp c14 h
        refine lv_lookup (off := 52) (tgt := 53) hx hb dX5_does_1 (by decide) (by rw [c14]; decide) (by decide) ?_
        refine lv_aload_n hx hb dX5_does_53 rfl (lv_at hl 0 rfl) ?_
        refine lv_aload_n hx hb dX5_does_54 rfl (lv_at hl 0 rfl) ?_
        refine va_get (D := D) (ci := 5) (v := .ref (a 6)) (C := RX5) (T := TX5) (N := 23) hx hb ht i_X5 hown hK hP 0 rfl rfl 10 (by decide) (ht _ wd_546) (fun _ h9 => h9) rfl dX5_does_55 ?_
        refine lv_iconst (v := (0 : Int32)) hx hb dX5_does_58 (by decide) ?_
        obtain ⟨i15, h⟩ := ck_ok h
        refine va_iald hx hb hK hP 6 0 rfl rfl i15 dX5_does_59 ?_
        refine lv_aload_n hx hb dX5_does_60 rfl (lv_at hl 0 rfl) ?_
        refine va_get (D := D) (ci := 5) (v := .ref (a 6)) (C := RX5) (T := TX5) (N := 23) hx hb ht i_X5 hown hK hP 0 rfl rfl 10 (by decide) (ht _ wd_546) (fun _ h9 => h9) rfl dX5_does_61 ?_
        refine lv_iconst (v := (1 : Int32)) hx hb dX5_does_64 (by decide) ?_
        obtain ⟨i16, h⟩ := ck_ok h
        refine va_iald hx hb hK hP 6 0 rfl rfl i16 dX5_does_65 ?_
        refine lv_aload_n hx hb dX5_does_66 rfl (lv_at hl 0 rfl) ?_
        refine va_get (D := D) (ci := 5) (v := .ref (a 6)) (C := RX5) (T := TX5) (N := 23) hx hb ht i_X5 hown hK hP 0 rfl rfl 10 (by decide) (ht _ wd_546) (fun _ h9 => h9) rfl dX5_does_67 ?_
        refine lv_iconst (v := (2 : Int32)) hx hb dX5_does_70 (by decide) ?_
        obtain ⟨i17, h⟩ := ck_ok h
        refine va_iald hx hb hK hP 6 0 rfl rfl i17 dX5_does_71 ?_
        refine lv_aload_n hx hb dX5_does_72 rfl (lv_at hl 0 rfl) ?_
        refine va_get (D := D) (ci := 5) (v := .ref (a 6)) (C := RX5) (T := TX5) (N := 23) hx hb ht i_X5 hown hK hP 0 rfl rfl 10 (by decide) (ht _ wd_546) (fun _ h9 => h9) rfl dX5_does_73 ?_
        refine lv_iconst (v := (3 : Int32)) hx hb dX5_does_76 (by decide) ?_
        obtain ⟨i18, h⟩ := ck_ok h
        refine va_iald hx hb hK hP 6 0 rfl rfl i18 dX5_does_77 ?_
        obtain ⟨u19, M20, e21, h⟩ := b2_ok h
        refine cl_Vi (ws' := (wX5 a cI cC cO M20)) ⟨hx, hb, hml, hown, ht⟩ (c_X5_lays l D cI cC cO a M (M 5 (0 : Int32).toNatClampNeg) (M 5 (1 : Int32).toNatClampNeg) (M 5 (2 : Int32).toNatClampNeg) (M 5 (3 : Int32).toNatClampNeg) _ _ e21) (cwv 4 ht wd_638 wd_6 wd_635 wd_637 ws_24 (by decide +kernel) rfl rfl ⟨Nat.le_of_ble_eq_true rfl, Nat.le_of_ble_eq_true rfl⟩) 5 0 rfl rfl rfl hK hP hD hS hA hN [0, 1, 2, 3, 4, 5, 6, 7, 8, 9, 10, 11, 12] [] [0, 1, 2, 3, 4, 5, 6, 7, 8, 9, 10, 11, 12] (by decide) rfl rfl (by decide) (by decide) rfl (by decide) rfl hl.1 rfl (Nat.le_of_ble_eq_true rfl) dX5_does_78 ⟨Nat.le_of_ble_eq_true rfl, Nat.le_of_ble_eq_true rfl⟩ (fun H locs hP hD hS => ?_)
        cases h
        exact rt_i hx hb hr hlocks hS hP hK hD dX5_does_81
      · replace h := fn c14 h
        refine lv_lookup (off := 104) (tgt := 105) hx hb dX5_does_1 (by decide) (by simp only [lookupswitch.offset_cons, lookupswitch.offset_nil, Array.toList]; rw [if_neg (lk_ne (k := 104) (by decide) c1), if_neg (lk_ne (k := 111) (by decide) c7), if_neg (lk_ne (k := 112) (by decide) c14)] <;> rfl) (by decide) ?_
        refine lv_aload_n hx hb dX5_does_105 rfl (lv_at hl 0 rfl) ?_
        refine lv_iconst (v := (2 : Int32)) hx hb dX5_does_106 (by decide) ?_
        refine lv_iconst (v := (2 : Int32)) hx hb dX5_does_107 (by decide) ?_
        refine lv_aload_n hx hb dX5_does_108 rfl (lv_at hl 0 rfl) ?_
        refine va_get (D := D) (ci := 5) (v := .ref (a 6)) (C := RX5) (T := TX5) (N := 23) hx hb ht i_X5 hown hK hP 0 rfl rfl 10 (by decide) (ht _ wd_546) (fun _ h9 => h9) rfl dX5_does_109 ?_
        refine lv_iconst (v := (0 : Int32)) hx hb dX5_does_112 (by decide) ?_
        obtain ⟨i22, h⟩ := ck_ok h
        refine va_iald hx hb hK hP 6 0 rfl rfl i22 dX5_does_113 ?_
        refine lv_imul hx hb dX5_does_114 ?_
        refine lv_iadd hx hb dX5_does_115 ?_
        refine lv_aload_n hx hb dX5_does_116 rfl (lv_at hl 0 rfl) ?_
        refine va_get (D := D) (ci := 5) (v := .ref (a 6)) (C := RX5) (T := TX5) (N := 23) hx hb ht i_X5 hown hK hP 0 rfl rfl 10 (by decide) (ht _ wd_546) (fun _ h9 => h9) rfl dX5_does_117 ?_
        refine lv_iconst (v := (1 : Int32)) hx hb dX5_does_120 (by decide) ?_
        obtain ⟨i23, h⟩ := ck_ok h
        refine va_iald hx hb hK hP 6 0 rfl rfl i23 dX5_does_121 ?_
        obtain ⟨u24, M25, e26, h⟩ := b2_ok h
        refine cl_Vi (ws' := (wX5 a cI cC cO M25)) ⟨hx, hb, hml, hown, ht⟩ (c_X5_becomes l D cI cC cO a M ((2 : Int32) + ((2 : Int32) * (M 5 (0 : Int32).toNatClampNeg))) (M 5 (1 : Int32).toNatClampNeg) _ _ e26) (cwv 2 ht wd_662 wd_6 wd_659 wd_661 ws_27 (by decide +kernel) rfl rfl ⟨Nat.le_of_ble_eq_true rfl, Nat.le_of_ble_eq_true rfl⟩) 5 0 rfl rfl rfl hK hP hD hS hA hN [0, 1, 2, 3, 4, 5, 6, 7, 8, 9, 10, 11, 12] [] [0, 1, 2, 3, 4, 5, 6, 7, 8, 9, 10, 11, 12] (by decide) rfl rfl (by decide) (by decide) rfl (by decide) rfl hl.1 rfl (Nat.le_of_ble_eq_true rfl) dX5_does_122 ⟨Nat.le_of_ble_eq_true rfl, Nat.le_of_ble_eq_true rfl⟩ (fun H locs hP hD hS => ?_)
        cases h
        exact rt_i hx hb hr hlocks hS hP hK hD dX5_does_125
theorem dX5_doesNext_0 : decode cX5_doesNext 0 = .ok (.aload_n 0, 1) := by decide +kernel
theorem dX5_doesNext_1 : decode cX5_doesNext 1 = .ok (.getfield 160, 3) := by decide +kernel
theorem dX5_doesNext_4 : decode cX5_doesNext 4 = .ok (.istore_n 1, 1) := by decide +kernel
theorem dX5_doesNext_5 : decode cX5_doesNext 5 = .ok (.aload_n 0, 1) := by decide +kernel
theorem dX5_doesNext_6 : decode cX5_doesNext 6 = .ok (.invokevirtual 163, 3) := by decide +kernel
theorem dX5_doesNext_9 : decode cX5_doesNext 9 = .ok (.istore_n 2, 1) := by decide +kernel
theorem dX5_doesNext_10 : decode cX5_doesNext 10 = .ok (.iload_n 2, 1) := by decide +kernel
theorem dX5_doesNext_11 : decode cX5_doesNext 11 = .ok (.bipush 104, 2) := by decide +kernel
theorem dX5_doesNext_13 : decode cX5_doesNext 13 = .ok (.if_icmp .eq 9, 3) := by decide +kernel
theorem dX5_doesNext_16 : decode cX5_doesNext 16 = .ok (.iload_n 2, 1) := by decide +kernel
theorem dX5_doesNext_17 : decode cX5_doesNext 17 = .ok (.bipush 117, 2) := by decide +kernel
theorem dX5_doesNext_19 : decode cX5_doesNext 19 = .ok (.if_icmp .ne 7, 3) := by decide +kernel
theorem dX5_doesNext_22 : decode cX5_doesNext 22 = .ok (.iconst 2, 1) := by decide +kernel
theorem dX5_doesNext_23 : decode cX5_doesNext 23 = .ok (.goto 24, 3) := by decide +kernel
theorem dX5_doesNext_26 : decode cX5_doesNext 26 = .ok (.iload_n 2, 1) := by decide +kernel
theorem dX5_doesNext_27 : decode cX5_doesNext 27 = .ok (.bipush 111, 2) := by decide +kernel
theorem dX5_doesNext_29 : decode cX5_doesNext 29 = .ok (.if_icmp .ne 7, 3) := by decide +kernel
theorem dX5_doesNext_32 : decode cX5_doesNext 32 = .ok (.iconst 3, 1) := by decide +kernel
theorem dX5_doesNext_33 : decode cX5_doesNext 33 = .ok (.goto 14, 3) := by decide +kernel
theorem dX5_doesNext_36 : decode cX5_doesNext 36 = .ok (.iload_n 2, 1) := by decide +kernel
theorem dX5_doesNext_37 : decode cX5_doesNext 37 = .ok (.bipush 112, 2) := by decide +kernel
theorem dX5_doesNext_39 : decode cX5_doesNext 39 = .ok (.if_icmp .ne 7, 3) := by decide +kernel
theorem dX5_doesNext_42 : decode cX5_doesNext 42 = .ok (.iconst 4, 1) := by decide +kernel
theorem dX5_doesNext_43 : decode cX5_doesNext 43 = .ok (.goto 4, 3) := by decide +kernel
theorem dX5_doesNext_46 : decode cX5_doesNext 46 = .ok (.iconst 0, 1) := by decide +kernel
theorem dX5_doesNext_47 : decode cX5_doesNext 47 = .ok (.istore_n 3, 1) := by decide +kernel
theorem dX5_doesNext_48 : decode cX5_doesNext 48 = .ok (.aload_n 0, 1) := by decide +kernel
theorem dX5_doesNext_49 : decode cX5_doesNext 49 = .ok (.dup, 1) := by decide +kernel
theorem dX5_doesNext_50 : decode cX5_doesNext 50 = .ok (.getfield 160, 3) := by decide +kernel
theorem dX5_doesNext_53 : decode cX5_doesNext 53 = .ok (.iload_n 3, 1) := by decide +kernel
theorem dX5_doesNext_54 : decode cX5_doesNext 54 = .ok (.ifCond .le 7, 3) := by decide +kernel
theorem dX5_doesNext_57 : decode cX5_doesNext 57 = .ok (.iconst 1, 1) := by decide +kernel
theorem dX5_doesNext_58 : decode cX5_doesNext 58 = .ok (.goto 4, 3) := by decide +kernel
theorem dX5_doesNext_61 : decode cX5_doesNext 61 = .ok (.iconst 0, 1) := by decide +kernel
theorem dX5_doesNext_62 : decode cX5_doesNext 62 = .ok (.iadd, 1) := by decide +kernel
theorem dX5_doesNext_63 : decode cX5_doesNext 63 = .ok (.putfield 160, 3) := by decide +kernel
theorem dX5_doesNext_66 : decode cX5_doesNext 66 = .ok (.iload_n 3, 1) := by decide +kernel
theorem dX5_doesNext_67 : decode cX5_doesNext 67 = .ok (.ifCond .eq 11, 3) := by decide +kernel
theorem dX5_doesNext_70 : decode cX5_doesNext 70 = .ok (.aload_n 0, 1) := by decide +kernel
theorem dX5_doesNext_71 : decode cX5_doesNext 71 = .ok (.iload_n 3, 1) := by decide +kernel
theorem dX5_doesNext_72 : decode cX5_doesNext 72 = .ok (.invokevirtual 169, 3) := by decide +kernel
theorem dX5_doesNext_75 : decode cX5_doesNext 75 = .ok (.ifCond .ne 15, 3) := by decide +kernel
theorem dX5_doesNext_78 : decode cX5_doesNext 78 = .ok (.aload_n 0, 1) := by decide +kernel
theorem dX5_doesNext_79 : decode cX5_doesNext 79 = .ok (.aload_n 0, 1) := by decide +kernel
theorem dX5_doesNext_80 : decode cX5_doesNext 80 = .ok (.getfield 160, 3) := by decide +kernel
theorem dX5_doesNext_83 : decode cX5_doesNext 83 = .ok (.iload_n 1, 1) := by decide +kernel
theorem dX5_doesNext_84 : decode cX5_doesNext 84 = .ok (.isub, 1) := by decide +kernel
theorem dX5_doesNext_85 : decode cX5_doesNext 85 = .ok (.putfield 172, 3) := by decide +kernel
theorem dX5_doesNext_88 : decode cX5_doesNext 88 = .ok (.iconst 1, 1) := by decide +kernel
theorem dX5_doesNext_89 : decode cX5_doesNext 89 = .ok (.ireturn, 1) := by decide +kernel
theorem dX5_doesNext_90 : decode cX5_doesNext 90 = .ok (.iconst 0, 1) := by decide +kernel
theorem dX5_doesNext_91 : decode cX5_doesNext 91 = .ok (.istore 4, 2) := by decide +kernel
theorem dX5_doesNext_93 : decode cX5_doesNext 93 = .ok (.iload 4, 2) := by decide +kernel
theorem dX5_doesNext_95 : decode cX5_doesNext 95 = .ok (.iload_n 3, 1) := by decide +kernel
theorem dX5_doesNext_96 : decode cX5_doesNext 96 = .ok (.if_icmp .ge 27, 3) := by decide +kernel
theorem dX5_doesNext_99 : decode cX5_doesNext 99 = .ok (.aload_n 0, 1) := by decide +kernel
theorem dX5_doesNext_100 : decode cX5_doesNext 100 = .ok (.iload_n 2, 1) := by decide +kernel
theorem dX5_doesNext_101 : decode cX5_doesNext 101 = .ok (.iload 4, 2) := by decide +kernel
theorem dX5_doesNext_103 : decode cX5_doesNext 103 = .ok (.invokevirtual 175, 3) := by decide +kernel
theorem dX5_doesNext_106 : decode cX5_doesNext 106 = .ok (.ifCond .ne 11, 3) := by decide +kernel
theorem dX5_doesNext_109 : decode cX5_doesNext 109 = .ok (.aload_n 0, 1) := by decide +kernel
theorem dX5_doesNext_110 : decode cX5_doesNext 110 = .ok (.iload 4, 2) := by decide +kernel
theorem dX5_doesNext_112 : decode cX5_doesNext 112 = .ok (.putfield 172, 3) := by decide +kernel
theorem dX5_doesNext_115 : decode cX5_doesNext 115 = .ok (.iconst 2, 1) := by decide +kernel
theorem dX5_doesNext_116 : decode cX5_doesNext 116 = .ok (.ireturn, 1) := by decide +kernel
theorem dX5_doesNext_117 : decode cX5_doesNext 117 = .ok (.iinc 4 1, 3) := by decide +kernel
theorem dX5_doesNext_120 : decode cX5_doesNext 120 = .ok (.goto (-27), 3) := by decide +kernel
theorem dX5_doesNext_123 : decode cX5_doesNext 123 = .ok (.aload_n 0, 1) := by decide +kernel
theorem dX5_doesNext_124 : decode cX5_doesNext 124 = .ok (.ldc 104, 2) := by decide +kernel
theorem dX5_doesNext_126 : decode cX5_doesNext 126 = .ok (.putfield 172, 3) := by decide +kernel
theorem dX5_doesNext_129 : decode cX5_doesNext 129 = .ok (.aload_n 0, 1) := by decide +kernel
theorem dX5_doesNext_130 : decode cX5_doesNext 130 = .ok (.iload_n 2, 1) := by decide +kernel
theorem dX5_doesNext_131 : decode cX5_doesNext 131 = .ok (.invokevirtual 178, 3) := by decide +kernel
theorem dX5_doesNext_134 : decode cX5_doesNext 134 = .ok (.ldc 71, 2) := by decide +kernel
theorem dX5_doesNext_136 : decode cX5_doesNext 136 = .ok (.if_icmp .ne 7, 3) := by decide +kernel
theorem dX5_doesNext_139 : decode cX5_doesNext 139 = .ok (.iconst 3, 1) := by decide +kernel
theorem dX5_doesNext_140 : decode cX5_doesNext 140 = .ok (.goto 4, 3) := by decide +kernel
theorem dX5_doesNext_143 : decode cX5_doesNext 143 = .ok (.iconst 0, 1) := by decide +kernel
theorem dX5_doesNext_144 : decode cX5_doesNext 144 = .ok (.ireturn, 1) := by decide +kernel
set_option maxHeartbeats 4000000 in
set_option maxRecDepth 100000 in
theorem c_X5_doesNext (l : Launch) (D : va_G) (cI cC cO : ClassId) (a : Nat → Nat) (M : Mm) (res : Int32 × Mm) (sz : Nat) (h : F_X5_doesNext M = some res) : Met l yX5_doesNext (Cond.code yX5_doesNext cX5_doesNext 5 (Option.some Jvm.ClassFile.FieldType.int) :: lw_g) ({ frames := 3, cells := 0, slots := 0, locals := 66 } : Room) (va_Pc [.ref (a 0)] (pS D cI cC cO sz (wX5 a cI cC cO M))) (QI D cI cC cO (va_A (wX5 a cI cC cO M) sz) (wX5 a cI cC cO res.2) res.1) 0 0 (va_A (wX5 a cI cC cO M) sz) := by
  refine Met.ofW (cc := cX5_doesNext) (maxL := 5) (ret := (Option.some Jvm.ClassFile.FieldType.int)) (by decide) rfl ?_
  intro p e s m args below meth c s₁ B hml hv
  obtain ⟨rfl, rfl, hP, hK, hD0, hN⟩ := hv
  have hx := B.exec
  have hb := B.bytes
  have hr := B.returns
  have ht : ∀ w ∈ lw_g, w.before ([.ref (a 0)] : List Value).toArray s = true := fun w hw => atoms_spec (ws := Cond.code yX5_doesNext cX5_doesNext 5 (Option.some Jvm.ClassFile.FieldType.int) :: lw_g) B.pre w (List.mem_cons_of_mem _ hw)
  have hown : s.vm.findClass RX5 = some m.cls := findClass_of_methodNamed B.named
  have hlocks := B.notSynchronized
  have hD := hD0.self (sz := s.heap.size)
  generalize hAe : va_A (wX5 a cI cC cO M) s.heap.size = A at hD ⊢
  have hA : ∀ q : Nat, s.heap.size ≤ q → A q := fun q hq => by rw [← hAe]; exact Or.inr hq
  have hS : va_S A s.heap s.heap [] := va_S.rf
  have hl := lv_entry ([.ref (a 0)]) (n := 5) (Nat.le_of_ble_eq_true rfl)
  rw [lg_entry_eq]
  generalize (lg_sl ([.ref (a 0)]) ++ List.replicate (5 - (lg_sl ([.ref (a 0)])).length) Slot.unset).toArray = ls at hl ⊢
  have hl : lv_has ls 5 [(0, .ref (a 0))] := hl
  have w78 : ∀ (M : Mm) (y1 : Int32) (H : Heap) (locs : List Loc) (ls : Array Slot), F_X5_doesNext_78 M y1 = some res → va_P D classes (wX5 a cI cC cO M) H → va_D A (wX5 a cI cC cO M) → va_S A s.heap H locs → lv_has ls 5 [(0, .ref (a 0)), (1, .int y1)] → W p l e ({ frames := 3, cells := 0, slots := 0, locals := 66 } : Room) s m ([.ref (a 0)] : List Value).toArray below meth c H locs 0 0 (MQ below (QI D cI cC cO A (wX5 a cI cC cO res.2) res.1) ([.ref (a 0)] : List Value).toArray s 0 0 A) (F0 m 78 ls []) := by
    intro M y1 H locs ls h hP hD hS hl
    unfold F_X5_doesNext_78 at h
    refine lv_aload_n hx hb dX5_doesNext_78 rfl (lv_at hl 0 rfl) ?_
    refine lv_aload_n hx hb dX5_doesNext_79 rfl (lv_at hl 0 rfl) ?_
    refine va_get (D := D) (ci := 5) (v := .int (M 12 2)) (C := RX5) (T := TX5) (N := 23) hx hb ht i_X5 hown hK hP 0 rfl rfl 7 (by decide) (ht _ wd_543) (fun _ h9 => h9) rfl dX5_doesNext_80 ?_
    refine lv_iload_n hx hb dX5_doesNext_83 rfl (lv_at hl 1 rfl) ?_
    refine lv_isub hx hb dX5_doesNext_84 ?_
    refine va_put (D := D) (ci := 5) (v := .int ((M 12 2) - y1)) (ty := .int) (C := RX5) (T := TX5) (N := 23) hx hb ht i_X5 tyX5 tyX5_ok nmX5 hown hK hP hD hS 0 rfl rfl 9 (by decide) (ht _ wd_545) (fun _ h9 => h9) rfl (by decide +kernel) rfl rfl (Nat.le_of_ble_eq_true rfl) dX5_doesNext_85 (fun H locs hP hD hS => ?_)
    obtain ⟨M1, e2, h⟩ := sv_ok h
    have hP : va_P D classes (wX5 a cI cC cO M1) H := by rw [← e2]; exact hP
    have hD : va_D A (wX5 a cI cC cO M1) := by rw [← e2]; exact hD
    refine lv_iconst (v := (1 : Int32)) hx hb dX5_doesNext_88 (by decide) ?_
    cases h
    exact rt_i hx hb hr hlocks hS hP hK hD dX5_doesNext_89
  have w93 : ∀ (n93 : Nat) (M : Mm) (y2 y3 y4 : Int32) (H : Heap) (locs : List Loc) (ls : Array Slot), F_X5_doesNext_93 n93 M y2 y3 y4 = some res → va_P D classes (wX5 a cI cC cO M) H → va_D A (wX5 a cI cC cO M) → va_S A s.heap H locs → lv_has ls 5 [(0, .ref (a 0)), (2, .int y2), (3, .int y3), (4, .int y4)] → W p l e ({ frames := 3, cells := 0, slots := 0, locals := 66 } : Room) s m ([.ref (a 0)] : List Value).toArray below meth c H locs 0 0 (MQ below (QI D cI cC cO A (wX5 a cI cC cO res.2) res.1) ([.ref (a 0)] : List Value).toArray s 0 0 A) (F0 m 93 ls []) := by
    intro n93
    induction n93 with
    | zero => intro M y2 y3 y4 H locs ls h hP hD hS hl; exact absurd (show (none : Option (Int32 × Mm)) = some res from h) (by simp)
    | succ n93 ih93 =>
      intro M y2 y3 y4 H locs ls h hP hD hS hl
      have h : F_X5_doesNextB_93 (F_X5_doesNext_93 n93) M y2 y3 y4 = some res := h
      unfold F_X5_doesNextB_93 at h
      refine lv_iload hx hb dX5_doesNext_93 (lv_at hl 3 rfl) ?_
      refine lv_iload_n hx hb dX5_doesNext_95 rfl (lv_at hl 2 rfl) ?_
      refine lv_icmp_ge (tgt := 123) hx hb dX5_doesNext_96 (by decide) (fun c1 => ?_) (fun c1 => ?_)
      · replace h := fp c1 h
        refine lv_aload_n hx hb dX5_doesNext_123 rfl (lv_at hl 0 rfl) ?_
        refine lv_ldc hx hb hown (ht _ wd_691) dX5_doesNext_124 ?_
        refine va_put (D := D) (ci := 5) (v := .int (-1000004 : Int32)) (ty := .int) (C := RX5) (T := TX5) (N := 23) hx hb ht i_X5 tyX5 tyX5_ok nmX5 hown hK hP hD hS 0 rfl rfl 9 (by decide) (ht _ wd_545) (fun _ h9 => h9) rfl (by decide +kernel) rfl rfl (Nat.le_of_ble_eq_true rfl) dX5_doesNext_126 (fun H locs hP hD hS => ?_)
        obtain ⟨M2, e3, h⟩ := sv_ok h
        have hP : va_P D classes (wX5 a cI cC cO M2) H := by rw [← e3]; exact hP
        have hD : va_D A (wX5 a cI cC cO M2) := by rw [← e3]; exact hD
        refine lv_aload_n hx hb dX5_doesNext_129 rfl (lv_at hl 0 rfl) ?_
        refine lv_iload_n hx hb dX5_doesNext_130 rfl (lv_at hl 1 rfl) ?_
        obtain ⟨u4, M5, e6, h⟩ := b2_ok h
        refine cl_Vi (ws' := (wX5 a cI cC cO M5)) ⟨hx, hb, hml, hown, ht⟩ (c_X5_does l D cI cC cO a M2 y2 _ _ e6) (cwv 1 ht wd_817 wd_6 wd_814 wd_816 ws_48 (by decide +kernel) rfl rfl ⟨Nat.le_of_ble_eq_true rfl, Nat.le_of_ble_eq_true rfl⟩) 5 0 rfl rfl rfl hK hP hD hS hA hN [0, 1, 2, 3, 4, 5, 6, 7, 8, 9, 10, 11, 12] [] [0, 1, 2, 3, 4, 5, 6, 7, 8, 9, 10, 11, 12] (by decide) rfl rfl (by decide) (by decide) rfl (by decide) rfl hl.1 rfl (Nat.le_of_ble_eq_true rfl) dX5_doesNext_131 ⟨Nat.le_of_ble_eq_true rfl, Nat.le_of_ble_eq_true rfl⟩ (fun H locs hP hD hS => ?_)
        refine lv_ldc hx hb hown (ht _ wd_622) dX5_doesNext_134 ?_
        refine lv_icmp_ne (tgt := 143) hx hb dX5_doesNext_136 (by decide) (fun c7 => ?_) (fun c7 => ?_)
        · replace h := fn c7 h
          refine lv_iconst (v := (0 : Int32)) hx hb dX5_doesNext_143 (by decide) ?_
          cases h
          exact rt_i hx hb hr hlocks hS hP hK hD dX5_doesNext_144
        · replace h := fp c7 h
          refine lv_iconst (v := (3 : Int32)) hx hb dX5_doesNext_139 (by decide) ?_
          refine lv_goto (tgt := 144) hx hb dX5_doesNext_140 (by decide) ?_
          cases h
          exact rt_i hx hb hr hlocks hS hP hK hD dX5_doesNext_144
      · replace h := fn c1 h
        refine lv_aload_n hx hb dX5_doesNext_99 rfl (lv_at hl 0 rfl) ?_
        refine lv_iload_n hx hb dX5_doesNext_100 rfl (lv_at hl 1 rfl) ?_
        refine lv_iload hx hb dX5_doesNext_101 (lv_at hl 3 rfl) ?_
        obtain ⟨u8, e9, h⟩ := b1_ok h
        refine cl_Vi (ws' := (wX5 a cI cC cO M)) ⟨hx, hb, hml, hown, ht⟩ (c_X5_isRight l D cI cC cO a M y2 y4 _ _ e9) (cwv 2 ht wd_813 wd_6 wd_810 wd_812 ws_47 (by decide +kernel) rfl rfl ⟨Nat.le_of_ble_eq_true rfl, Nat.le_of_ble_eq_true rfl⟩) 5 0 rfl rfl rfl hK hP hD hS hA hN [0, 1, 2, 3, 4, 5, 6, 7, 8, 9, 10, 11, 12] [] [0, 1, 2, 3, 4, 5, 6, 7, 8, 9, 10, 11, 12] (by decide) rfl rfl (by decide) (by decide) rfl (by decide) rfl hl.1 rfl (Nat.le_of_ble_eq_true rfl) dX5_doesNext_103 ⟨Nat.le_of_ble_eq_true rfl, Nat.le_of_ble_eq_true rfl⟩ (fun H locs hP hD hS => ?_)
        refine lv_if_ne (tgt := 117) hx hb dX5_doesNext_106 (by decide) (fun c10 => ?_) (fun c10 => ?_)
        · replace h := fn c10 h
          refine lv_iinc (v := (y4 + 1)) (lv' := [(4, .int (y4 + 1)), (0, .ref (a 0)), (2, .int y2), (3, .int y3)]) hx hb dX5_doesNext_117 hl (k := 3) rfl rfl (by decide) rfl (fun ls hl => ?_)
          refine lv_goto (tgt := 93) hx hb dX5_doesNext_120 (by decide) ?_
          exact ih93 M y2 y3 (y4 + 1) _ _ ls h hP hD hS (lv_sub hl [1, 2, 3, 0] rfl)
        · replace h := fp c10 h
          refine lv_aload_n hx hb dX5_doesNext_109 rfl (lv_at hl 0 rfl) ?_
          refine lv_iload hx hb dX5_doesNext_110 (lv_at hl 3 rfl) ?_
          refine va_put (D := D) (ci := 5) (v := .int y4) (ty := .int) (C := RX5) (T := TX5) (N := 23) hx hb ht i_X5 tyX5 tyX5_ok nmX5 hown hK hP hD hS 0 rfl rfl 9 (by decide) (ht _ wd_545) (fun _ h9 => h9) rfl (by decide +kernel) rfl rfl (Nat.le_of_ble_eq_true rfl) dX5_doesNext_112 (fun H locs hP hD hS => ?_)
          obtain ⟨M11, e12, h⟩ := sv_ok h
          have hP : va_P D classes (wX5 a cI cC cO M11) H := by rw [← e12]; exact hP
          have hD : va_D A (wX5 a cI cC cO M11) := by rw [← e12]; exact hD
          refine lv_iconst (v := (2 : Int32)) hx hb dX5_doesNext_115 (by decide) ?_
          cases h
          exact rt_i hx hb hr hlocks hS hP hK hD dX5_doesNext_116
  have w62 : ∀ (M : Mm) (y1 y2 y3 s0 s1 : Int32) (H : Heap) (locs : List Loc) (ls : Array Slot), F_X5_doesNext_62 M y1 y2 y3 s0 s1 = some res → va_P D classes (wX5 a cI cC cO M) H → va_D A (wX5 a cI cC cO M) → va_S A s.heap H locs → lv_has ls 5 [(0, .ref (a 0)), (1, .int y1), (2, .int y2), (3, .int y3)] → W p l e ({ frames := 3, cells := 0, slots := 0, locals := 66 } : Room) s m ([.ref (a 0)] : List Value).toArray below meth c H locs 0 0 (MQ below (QI D cI cC cO A (wX5 a cI cC cO res.2) res.1) ([.ref (a 0)] : List Value).toArray s 0 0 A) (F0 m 62 ls [.int s0, .int s1, .ref (a 0)]) := by
    intro M y1 y2 y3 s0 s1 H locs ls h hP hD hS hl
    unfold F_X5_doesNext_62 at h
    refine lv_iadd hx hb dX5_doesNext_62 ?_
    refine va_put (D := D) (ci := 5) (v := .int (s1 + s0)) (ty := .int) (C := RX5) (T := TX5) (N := 23) hx hb ht i_X5 tyX5 tyX5_ok nmX5 hown hK hP hD hS 0 rfl rfl 7 (by decide) (ht _ wd_543) (fun _ h9 => h9) rfl (by decide +kernel) rfl rfl (Nat.le_of_ble_eq_true rfl) dX5_doesNext_63 (fun H locs hP hD hS => ?_)
    obtain ⟨M1, e2, h⟩ := sv_ok h
    have hP : va_P D classes (wX5 a cI cC cO M1) H := by rw [← e2]; exact hP
    have hD : va_D A (wX5 a cI cC cO M1) := by rw [← e2]; exact hD
    refine lv_iload_n hx hb dX5_doesNext_66 rfl (lv_at hl 3 rfl) ?_
    refine lv_if_eq (tgt := 78) hx hb dX5_doesNext_67 (by decide) (fun c3 => ?_) (fun c3 => ?_)
    · replace h := fp c3 h
      exact w78 M1 y1 _ _ ls h hP hD hS (lv_sub hl [0, 1] rfl)
    · replace h := fn c3 h
      refine lv_aload_n hx hb dX5_doesNext_70 rfl (lv_at hl 0 rfl) ?_
      refine lv_iload_n hx hb dX5_doesNext_71 rfl (lv_at hl 3 rfl) ?_
      obtain ⟨u4, M5, e6, h⟩ := b2_ok h
      refine cl_Vi (ws' := (wX5 a cI cC cO M5)) ⟨hx, hb, hml, hown, ht⟩ (c_X5_reads l D cI cC cO a M1 y3 _ _ e6) (cwv 1 ht wd_805 wd_6 wd_802 wd_804 ws_45 (by decide +kernel) rfl rfl ⟨Nat.le_of_ble_eq_true rfl, Nat.le_of_ble_eq_true rfl⟩) 5 0 rfl rfl rfl hK hP hD hS hA hN [0, 1, 2, 3, 4, 5, 6, 7, 8, 9, 10, 11, 12] [] [0, 1, 2, 3, 4, 5, 6, 7, 8, 9, 10, 11, 12] (by decide) rfl rfl (by decide) (by decide) rfl (by decide) rfl hl.1 rfl (Nat.le_of_ble_eq_true rfl) dX5_doesNext_72 ⟨Nat.le_of_ble_eq_true rfl, Nat.le_of_ble_eq_true rfl⟩ (fun H locs hP hD hS => ?_)
      refine lv_if_ne (tgt := 90) hx hb dX5_doesNext_75 (by decide) (fun c7 => ?_) (fun c7 => ?_)
      · replace h := fn c7 h
        refine lv_iconst (v := (0 : Int32)) hx hb dX5_doesNext_90 (by decide) ?_
        refine lv_istore (lv' := [(4, .int (0 : Int32)), (0, .ref (a 0)), (1, .int y1), (2, .int y2), (3, .int y3)]) hx hb dX5_doesNext_91 hl (by decide) rfl (fun ls hl => ?_)
        exact w93 FU M5 y2 y3 (0 : Int32) _ _ ls h hP hD hS (lv_sub hl [1, 3, 4, 0] rfl)
      · replace h := fp c7 h
        exact w78 M5 y1 _ _ ls h hP hD hS (lv_sub hl [0, 1] rfl)
  have w47 : ∀ (M : Mm) (y1 y2 s0 : Int32) (H : Heap) (locs : List Loc) (ls : Array Slot), F_X5_doesNext_47 M y1 y2 s0 = some res → va_P D classes (wX5 a cI cC cO M) H → va_D A (wX5 a cI cC cO M) → va_S A s.heap H locs → lv_has ls 5 [(0, .ref (a 0)), (1, .int y1), (2, .int y2)] → W p l e ({ frames := 3, cells := 0, slots := 0, locals := 66 } : Room) s m ([.ref (a 0)] : List Value).toArray below meth c H locs 0 0 (MQ below (QI D cI cC cO A (wX5 a cI cC cO res.2) res.1) ([.ref (a 0)] : List Value).toArray s 0 0 A) (F0 m 47 ls [.int s0]) := by
    intro M y1 y2 s0 H locs ls h hP hD hS hl
    unfold F_X5_doesNext_47 at h
    refine lv_istore_n (lv' := [(3, .int s0), (0, .ref (a 0)), (1, .int y1), (2, .int y2)]) hx hb dX5_doesNext_47 rfl hl (by decide) rfl (fun ls hl => ?_)
    refine lv_aload_n hx hb dX5_doesNext_48 rfl (lv_at hl 1 rfl) ?_
    refine lv_dup hx hb dX5_doesNext_49 rfl ?_
    refine va_get (D := D) (ci := 5) (v := .int (M 12 2)) (C := RX5) (T := TX5) (N := 23) hx hb ht i_X5 hown hK hP 0 rfl rfl 7 (by decide) (ht _ wd_543) (fun _ h9 => h9) rfl dX5_doesNext_50 ?_
    refine lv_iload_n hx hb dX5_doesNext_53 rfl (lv_at hl 0 rfl) ?_
    refine lv_if_le (tgt := 61) hx hb dX5_doesNext_54 (by decide) (fun c1 => ?_) (fun c1 => ?_)
    · replace h := fp c1 h
      refine lv_iconst (v := (0 : Int32)) hx hb dX5_doesNext_61 (by decide) ?_
      exact w62 M y1 y2 s0 (0 : Int32) (M 12 2) _ _ ls h hP hD hS (lv_sub hl [1, 2, 3, 0] rfl)
    · replace h := fn c1 h
      refine lv_iconst (v := (1 : Int32)) hx hb dX5_doesNext_57 (by decide) ?_
      refine lv_goto (tgt := 62) hx hb dX5_doesNext_58 (by decide) ?_
      exact w62 M y1 y2 s0 (1 : Int32) (M 12 2) _ _ ls h hP hD hS (lv_sub hl [1, 2, 3, 0] rfl)
  have w22 : ∀ (M : Mm) (y1 y2 : Int32) (H : Heap) (locs : List Loc) (ls : Array Slot), F_X5_doesNext_22 M y1 y2 = some res → va_P D classes (wX5 a cI cC cO M) H → va_D A (wX5 a cI cC cO M) → va_S A s.heap H locs → lv_has ls 5 [(0, .ref (a 0)), (1, .int y1), (2, .int y2)] → W p l e ({ frames := 3, cells := 0, slots := 0, locals := 66 } : Room) s m ([.ref (a 0)] : List Value).toArray below meth c H locs 0 0 (MQ below (QI D cI cC cO A (wX5 a cI cC cO res.2) res.1) ([.ref (a 0)] : List Value).toArray s 0 0 A) (F0 m 22 ls []) := by
    intro M y1 y2 H locs ls h hP hD hS hl
    unfold F_X5_doesNext_22 at h
    refine lv_iconst (v := (2 : Int32)) hx hb dX5_doesNext_22 (by decide) ?_
    refine lv_goto (tgt := 47) hx hb dX5_doesNext_23 (by decide) ?_
    exact w47 M y1 y2 (2 : Int32) _ _ ls h hP hD hS (lv_sub hl [0, 1, 2] rfl)
  unfold F_X5_doesNext at h
  refine lv_aload_n hx hb dX5_doesNext_0 rfl (lv_at hl 0 rfl) ?_
  refine va_get (D := D) (ci := 5) (v := .int (M 12 2)) (C := RX5) (T := TX5) (N := 23) hx hb ht i_X5 hown hK hP 0 rfl rfl 7 (by decide) (ht _ wd_543) (fun _ h9 => h9) rfl dX5_doesNext_1 ?_
  refine lv_istore_n (lv' := [(1, .int (M 12 2)), (0, .ref (a 0))]) hx hb dX5_doesNext_4 rfl hl (by decide) rfl (fun ls hl => ?_)
  refine lv_aload_n hx hb dX5_doesNext_5 rfl (lv_at hl 1 rfl) ?_
  obtain ⟨u1, e2, h⟩ := b1_ok h
  refine cl_Vi (ws' := (wX5 a cI cC cO M)) ⟨hx, hb, hml, hown, ht⟩ (c_X5_sign l D cI cC cO a M _ _ e2) (cwv 0 ht wd_801 wd_6 wd_798 wd_800 ws_44 (by decide +kernel) rfl rfl ⟨Nat.le_of_ble_eq_true rfl, Nat.le_of_ble_eq_true rfl⟩) 5 0 rfl rfl rfl hK hP hD hS hA hN [0, 1, 2, 3, 4, 5, 6, 7, 8, 9, 10, 11, 12] [] [0, 1, 2, 3, 4, 5, 6, 7, 8, 9, 10, 11, 12] (by decide) rfl rfl (by decide) (by decide) rfl (by decide) rfl hl.1 rfl (Nat.le_of_ble_eq_true rfl) dX5_doesNext_6 ⟨Nat.le_of_ble_eq_true rfl, Nat.le_of_ble_eq_true rfl⟩ (fun H locs hP hD hS => ?_)
  refine lv_istore_n (lv' := [(2, .int u1), (1, .int (M 12 2)), (0, .ref (a 0))]) hx hb dX5_doesNext_9 rfl hl (by decide) rfl (fun ls hl => ?_)
  refine lv_iload_n hx hb dX5_doesNext_10 rfl (lv_at hl 0 rfl) ?_
  refine lv_bipush (v := (104 : Int32)) hx hb dX5_doesNext_11 (by decide) ?_
  refine lv_icmp_eq (tgt := 22) hx hb dX5_doesNext_13 (by decide) (fun c3 => ?_) (fun c3 => ?_)
  · replace h := fp c3 h
    exact w22 M (M 12 2) u1 _ _ ls h hP hD hS (lv_sub hl [2, 1, 0] rfl)
  · replace h := fn c3 h
    refine lv_iload_n hx hb dX5_doesNext_16 rfl (lv_at hl 0 rfl) ?_
    refine lv_bipush (v := (117 : Int32)) hx hb dX5_doesNext_17 (by decide) ?_
    refine lv_icmp_ne (tgt := 26) hx hb dX5_doesNext_19 (by decide) (fun c4 => ?_) (fun c4 => ?_)
    · replace h := fn c4 h
      refine lv_iload_n hx hb dX5_doesNext_26 rfl (lv_at hl 0 rfl) ?_
      refine lv_bipush (v := (111 : Int32)) hx hb dX5_doesNext_27 (by decide) ?_
      refine lv_icmp_ne (tgt := 36) hx hb dX5_doesNext_29 (by decide) (fun c5 => ?_) (fun c5 => ?_)
      · replace h := fn c5 h
        refine lv_iload_n hx hb dX5_doesNext_36 rfl (lv_at hl 0 rfl) ?_
        refine lv_bipush (v := (112 : Int32)) hx hb dX5_doesNext_37 (by decide) ?_
        refine lv_icmp_ne (tgt := 46) hx hb dX5_doesNext_39 (by decide) (fun c6 => ?_) (fun c6 => ?_)
        · replace h := fn c6 h
          refine lv_iconst (v := (0 : Int32)) hx hb dX5_doesNext_46 (by decide) ?_
          exact w47 M (M 12 2) u1 (0 : Int32) _ _ ls h hP hD hS (lv_sub hl [2, 1, 0] rfl)
        · replace h := fp c6 h
          refine lv_iconst (v := (4 : Int32)) hx hb dX5_doesNext_42 (by decide) ?_
          refine lv_goto (tgt := 47) hx hb dX5_doesNext_43 (by decide) ?_
          exact w47 M (M 12 2) u1 (4 : Int32) _ _ ls h hP hD hS (lv_sub hl [2, 1, 0] rfl)
      · replace h := fp c5 h
        refine lv_iconst (v := (3 : Int32)) hx hb dX5_doesNext_32 (by decide) ?_
        refine lv_goto (tgt := 47) hx hb dX5_doesNext_33 (by decide) ?_
        exact w47 M (M 12 2) u1 (3 : Int32) _ _ ls h hP hD hS (lv_sub hl [2, 1, 0] rfl)
    · replace h := fp c4 h
      exact w22 M (M 12 2) u1 _ _ ls h hP hD hS (lv_sub hl [2, 1, 0] rfl)
theorem dX5_faulty_0 : decode cX5_faulty 0 = .ok (.iconst 0, 1) := by decide +kernel
theorem dX5_faulty_1 : decode cX5_faulty 1 = .ok (.istore_n 1, 1) := by decide +kernel
theorem dX5_faulty_2 : decode cX5_faulty 2 = .ok (.iload_n 1, 1) := by decide +kernel
theorem dX5_faulty_3 : decode cX5_faulty 3 = .ok (.bipush 74, 2) := by decide +kernel
theorem dX5_faulty_5 : decode cX5_faulty 5 = .ok (.if_icmp .ge 21, 3) := by decide +kernel
theorem dX5_faulty_8 : decode cX5_faulty 8 = .ok (.aload_n 0, 1) := by decide +kernel
theorem dX5_faulty_9 : decode cX5_faulty 9 = .ok (.getfield 19, 3) := by decide +kernel
theorem dX5_faulty_12 : decode cX5_faulty 12 = .ok (.iload_n 1, 1) := by decide +kernel
theorem dX5_faulty_13 : decode cX5_faulty 13 = .ok (.aload_n 0, 1) := by decide +kernel
theorem dX5_faulty_14 : decode cX5_faulty 14 = .ok (.getfield 7, 3) := by decide +kernel
theorem dX5_faulty_17 : decode cX5_faulty 17 = .ok (.iload_n 1, 1) := by decide +kernel
theorem dX5_faulty_18 : decode cX5_faulty 18 = .ok (.iaload, 1) := by decide +kernel
theorem dX5_faulty_19 : decode cX5_faulty 19 = .ok (.iastore, 1) := by decide +kernel
theorem dX5_faulty_20 : decode cX5_faulty 20 = .ok (.iinc 1 1, 3) := by decide +kernel
theorem dX5_faulty_23 : decode cX5_faulty 23 = .ok (.goto (-21), 3) := by decide +kernel
theorem dX5_faulty_26 : decode cX5_faulty 26 = .ok (.ldc 104, 2) := by decide +kernel
theorem dX5_faulty_28 : decode cX5_faulty 28 = .ok (.istore_n 1, 1) := by decide +kernel
theorem dX5_faulty_29 : decode cX5_faulty 29 = .ok (.aload_n 0, 1) := by decide +kernel
theorem dX5_faulty_30 : decode cX5_faulty 30 = .ok (.iconst 0, 1) := by decide +kernel
theorem dX5_faulty_31 : decode cX5_faulty 31 = .ok (.putfield 160, 3) := by decide +kernel
theorem dX5_faulty_34 : decode cX5_faulty 34 = .ok (.aload_n 0, 1) := by decide +kernel
theorem dX5_faulty_35 : decode cX5_faulty 35 = .ok (.getfield 160, 3) := by decide +kernel
theorem dX5_faulty_38 : decode cX5_faulty 38 = .ok (.aload_n 0, 1) := by decide +kernel
theorem dX5_faulty_39 : decode cX5_faulty 39 = .ok (.getfield 156, 3) := by decide +kernel
theorem dX5_faulty_42 : decode cX5_faulty 42 = .ok (.if_icmp .ge 38, 3) := by decide +kernel
theorem dX5_faulty_45 : decode cX5_faulty 45 = .ok (.iload_n 1, 1) := by decide +kernel
theorem dX5_faulty_46 : decode cX5_faulty 46 = .ok (.ldc 104, 2) := by decide +kernel
theorem dX5_faulty_48 : decode cX5_faulty 48 = .ok (.if_icmp .ne 32, 3) := by decide +kernel
theorem dX5_faulty_51 : decode cX5_faulty 51 = .ok (.aload_n 0, 1) := by decide +kernel
theorem dX5_faulty_52 : decode cX5_faulty 52 = .ok (.getfield 160, 3) := by decide +kernel
theorem dX5_faulty_55 : decode cX5_faulty 55 = .ok (.istore_n 2, 1) := by decide +kernel
theorem dX5_faulty_56 : decode cX5_faulty 56 = .ok (.aload_n 0, 1) := by decide +kernel
theorem dX5_faulty_57 : decode cX5_faulty 57 = .ok (.aload_n 0, 1) := by decide +kernel
theorem dX5_faulty_58 : decode cX5_faulty 58 = .ok (.invokevirtual 181, 3) := by decide +kernel
theorem dX5_faulty_61 : decode cX5_faulty 61 = .ok (.putfield 184, 3) := by decide +kernel
theorem dX5_faulty_64 : decode cX5_faulty 64 = .ok (.aload_n 0, 1) := by decide +kernel
theorem dX5_faulty_65 : decode cX5_faulty 65 = .ok (.getfield 184, 3) := by decide +kernel
theorem dX5_faulty_68 : decode cX5_faulty 68 = .ok (.ifCond .le 7, 3) := by decide +kernel
theorem dX5_faulty_71 : decode cX5_faulty 71 = .ok (.iload_n 2, 1) := by decide +kernel
theorem dX5_faulty_72 : decode cX5_faulty 72 = .ok (.goto 4, 3) := by decide +kernel
theorem dX5_faulty_75 : decode cX5_faulty 75 = .ok (.iload_n 1, 1) := by decide +kernel
theorem dX5_faulty_76 : decode cX5_faulty 76 = .ok (.istore_n 1, 1) := by decide +kernel
theorem dX5_faulty_77 : decode cX5_faulty 77 = .ok (.goto (-43), 3) := by decide +kernel
theorem dX5_faulty_80 : decode cX5_faulty 80 = .ok (.iconst 0, 1) := by decide +kernel
theorem dX5_faulty_81 : decode cX5_faulty 81 = .ok (.istore_n 2, 1) := by decide +kernel
theorem dX5_faulty_82 : decode cX5_faulty 82 = .ok (.iload_n 2, 1) := by decide +kernel
theorem dX5_faulty_83 : decode cX5_faulty 83 = .ok (.bipush 74, 2) := by decide +kernel
theorem dX5_faulty_85 : decode cX5_faulty 85 = .ok (.if_icmp .ge 21, 3) := by decide +kernel
theorem dX5_faulty_88 : decode cX5_faulty 88 = .ok (.aload_n 0, 1) := by decide +kernel
theorem dX5_faulty_89 : decode cX5_faulty 89 = .ok (.getfield 7, 3) := by decide +kernel
theorem dX5_faulty_92 : decode cX5_faulty 92 = .ok (.iload_n 2, 1) := by decide +kernel
theorem dX5_faulty_93 : decode cX5_faulty 93 = .ok (.aload_n 0, 1) := by decide +kernel
theorem dX5_faulty_94 : decode cX5_faulty 94 = .ok (.getfield 19, 3) := by decide +kernel
theorem dX5_faulty_97 : decode cX5_faulty 97 = .ok (.iload_n 2, 1) := by decide +kernel
theorem dX5_faulty_98 : decode cX5_faulty 98 = .ok (.iaload, 1) := by decide +kernel
theorem dX5_faulty_99 : decode cX5_faulty 99 = .ok (.iastore, 1) := by decide +kernel
theorem dX5_faulty_100 : decode cX5_faulty 100 = .ok (.iinc 2 1, 3) := by decide +kernel
theorem dX5_faulty_103 : decode cX5_faulty 103 = .ok (.goto (-21), 3) := by decide +kernel
theorem dX5_faulty_106 : decode cX5_faulty 106 = .ok (.iload_n 1, 1) := by decide +kernel
theorem dX5_faulty_107 : decode cX5_faulty 107 = .ok (.ireturn, 1) := by decide +kernel
set_option maxHeartbeats 4000000 in
set_option maxRecDepth 100000 in
theorem c_X5_faulty (l : Launch) (D : va_G) (cI cC cO : ClassId) (a : Nat → Nat) (M : Mm) (res : Int32 × Mm) (sz : Nat) (h : F_X5_faulty M = some res) : Met l yX5_faulty (Cond.code yX5_faulty cX5_faulty 3 (Option.some Jvm.ClassFile.FieldType.int) :: lw_g) ({ frames := 4, cells := 0, slots := 0, locals := 90 } : Room) (va_Pc [.ref (a 0)] (pS D cI cC cO sz (wX5 a cI cC cO M))) (QI D cI cC cO (va_A (wX5 a cI cC cO M) sz) (wX5 a cI cC cO res.2) res.1) 0 0 (va_A (wX5 a cI cC cO M) sz) := by
  refine Met.ofW (cc := cX5_faulty) (maxL := 3) (ret := (Option.some Jvm.ClassFile.FieldType.int)) (by decide) rfl ?_
  intro p e s m args below meth c s₁ B hml hv
  obtain ⟨rfl, rfl, hP, hK, hD0, hN⟩ := hv
  have hx := B.exec
  have hb := B.bytes
  have hr := B.returns
  have ht : ∀ w ∈ lw_g, w.before ([.ref (a 0)] : List Value).toArray s = true := fun w hw => atoms_spec (ws := Cond.code yX5_faulty cX5_faulty 3 (Option.some Jvm.ClassFile.FieldType.int) :: lw_g) B.pre w (List.mem_cons_of_mem _ hw)
  have hown : s.vm.findClass RX5 = some m.cls := findClass_of_methodNamed B.named
  have hlocks := B.notSynchronized
  have hD := hD0.self (sz := s.heap.size)
  generalize hAe : va_A (wX5 a cI cC cO M) s.heap.size = A at hD ⊢
  have hA : ∀ q : Nat, s.heap.size ≤ q → A q := fun q hq => by rw [← hAe]; exact Or.inr hq
  have hS : va_S A s.heap s.heap [] := va_S.rf
  have hl := lv_entry ([.ref (a 0)]) (n := 3) (Nat.le_of_ble_eq_true rfl)
  rw [lg_entry_eq]
  generalize (lg_sl ([.ref (a 0)]) ++ List.replicate (3 - (lg_sl ([.ref (a 0)])).length) Slot.unset).toArray = ls at hl ⊢
  have hl : lv_has ls 3 [(0, .ref (a 0))] := hl
  have w82 : ∀ (n82 : Nat) (M : Mm) (y1 y2 : Int32) (H : Heap) (locs : List Loc) (ls : Array Slot), F_X5_faulty_82 n82 M y1 y2 = some res → va_P D classes (wX5 a cI cC cO M) H → va_D A (wX5 a cI cC cO M) → va_S A s.heap H locs → lv_has ls 3 [(0, .ref (a 0)), (1, .int y1), (2, .int y2)] → W p l e ({ frames := 4, cells := 0, slots := 0, locals := 90 } : Room) s m ([.ref (a 0)] : List Value).toArray below meth c H locs 0 0 (MQ below (QI D cI cC cO A (wX5 a cI cC cO res.2) res.1) ([.ref (a 0)] : List Value).toArray s 0 0 A) (F0 m 82 ls []) := by
    intro n82
    induction n82 with
    | zero => intro M y1 y2 H locs ls h hP hD hS hl; exact absurd (show (none : Option (Int32 × Mm)) = some res from h) (by simp)
    | succ n82 ih82 =>
      intro M y1 y2 H locs ls h hP hD hS hl
      have h : F_X5_faultyB_82 (F_X5_faulty_82 n82) M y1 y2 = some res := h
      unfold F_X5_faultyB_82 at h
      refine lv_iload_n hx hb dX5_faulty_82 rfl (lv_at hl 2 rfl) ?_
      refine lv_bipush (v := (74 : Int32)) hx hb dX5_faulty_83 (by decide) ?_
      refine lv_icmp_ge (tgt := 106) hx hb dX5_faulty_85 (by decide) (fun c1 => ?_) (fun c1 => ?_)
      · replace h := fp c1 h
        refine lv_iload_n hx hb dX5_faulty_106 rfl (lv_at hl 1 rfl) ?_
        cases h
        exact rt_i hx hb hr hlocks hS hP hK hD dX5_faulty_107
      · replace h := fn c1 h
        refine lv_aload_n hx hb dX5_faulty_88 rfl (lv_at hl 0 rfl) ?_
        refine va_get (D := D) (ci := 5) (v := .ref (a 1)) (C := RX5) (T := TX5) (N := 23) hx hb ht i_X5 hown hK hP 0 rfl rfl 0 (by decide) (ht _ wd_536) (fun _ h9 => h9) rfl dX5_faulty_89 ?_
        refine lv_iload_n hx hb dX5_faulty_92 rfl (lv_at hl 2 rfl) ?_
        refine lv_aload_n hx hb dX5_faulty_93 rfl (lv_at hl 0 rfl) ?_
        refine va_get (D := D) (ci := 5) (v := .ref (a 4)) (C := RX5) (T := TX5) (N := 23) hx hb ht i_X5 hown hK hP 0 rfl rfl 3 (by decide) (ht _ wd_539) (fun _ h9 => h9) rfl dX5_faulty_94 ?_
        refine lv_iload_n hx hb dX5_faulty_97 rfl (lv_at hl 2 rfl) ?_
        obtain ⟨i2, h⟩ := ck_ok h
        refine va_iald hx hb hK hP 4 0 rfl rfl i2 dX5_faulty_98 ?_
        obtain ⟨i3, h⟩ := ck_ok h
        refine va_iast hx hb hK hP hD hS 1 0 rfl rfl i3 dX5_faulty_99 (fun H locs hP hD hS => ?_)
        obtain ⟨M4, e5, h⟩ := sv_ok h
        have hP : va_P D classes (wX5 a cI cC cO M4) H := by rw [← e5]; exact hP
        have hD : va_D A (wX5 a cI cC cO M4) := by rw [← e5]; exact hD
        refine lv_iinc (v := (y2 + 1)) (lv' := [(2, .int (y2 + 1)), (0, .ref (a 0)), (1, .int y1)]) hx hb dX5_faulty_100 hl (k := 2) rfl rfl (by decide) rfl (fun ls hl => ?_)
        refine lv_goto (tgt := 82) hx hb dX5_faulty_103 (by decide) ?_
        exact ih82 M4 y1 (y2 + 1) _ _ ls h hP hD hS (lv_sub hl [1, 2, 0] rfl)
  have w34 : ∀ (n34 : Nat) (M : Mm) (y1 : Int32) (H : Heap) (locs : List Loc) (ls : Array Slot), F_X5_faulty_34 n34 M y1 = some res → va_P D classes (wX5 a cI cC cO M) H → va_D A (wX5 a cI cC cO M) → va_S A s.heap H locs → lv_has ls 3 [(0, .ref (a 0)), (1, .int y1)] → W p l e ({ frames := 4, cells := 0, slots := 0, locals := 90 } : Room) s m ([.ref (a 0)] : List Value).toArray below meth c H locs 0 0 (MQ below (QI D cI cC cO A (wX5 a cI cC cO res.2) res.1) ([.ref (a 0)] : List Value).toArray s 0 0 A) (F0 m 34 ls []) := by
    intro n34
    induction n34 with
    | zero => intro M y1 H locs ls h hP hD hS hl; exact absurd (show (none : Option (Int32 × Mm)) = some res from h) (by simp)
    | succ n34 ih34 =>
      intro M y1 H locs ls h hP hD hS hl
      have h : F_X5_faultyB_34 (F_X5_faulty_34 n34) M y1 = some res := h
      unfold F_X5_faultyB_34 at h
      refine lv_aload_n hx hb dX5_faulty_34 rfl (lv_at hl 0 rfl) ?_
      refine va_get (D := D) (ci := 5) (v := .int (M 12 2)) (C := RX5) (T := TX5) (N := 23) hx hb ht i_X5 hown hK hP 0 rfl rfl 7 (by decide) (ht _ wd_543) (fun _ h9 => h9) rfl dX5_faulty_35 ?_
      refine lv_aload_n hx hb dX5_faulty_38 rfl (lv_at hl 0 rfl) ?_
      refine va_get (D := D) (ci := 5) (v := .int (M 12 1)) (C := RX5) (T := TX5) (N := 23) hx hb ht i_X5 hown hK hP 0 rfl rfl 6 (by decide) (ht _ wd_542) (fun _ h9 => h9) rfl dX5_faulty_39 ?_
      refine lv_icmp_ge (tgt := 80) hx hb dX5_faulty_42 (by decide) (fun c1 => ?_) (fun c1 => ?_)
      · replace h := fp c1 h
        refine lv_iconst (v := (0 : Int32)) hx hb dX5_faulty_80 (by decide) ?_
        refine lv_istore_n (lv' := [(2, .int (0 : Int32)), (0, .ref (a 0)), (1, .int y1)]) hx hb dX5_faulty_81 rfl hl (by decide) rfl (fun ls hl => ?_)
        exact w82 FU M y1 (0 : Int32) _ _ ls h hP hD hS (lv_sub hl [1, 2, 0] rfl)
      · replace h := fn c1 h
        refine lv_iload_n hx hb dX5_faulty_45 rfl (lv_at hl 1 rfl) ?_
        refine lv_ldc hx hb hown (ht _ wd_691) dX5_faulty_46 ?_
        refine lv_icmp_ne (tgt := 80) hx hb dX5_faulty_48 (by decide) (fun c2 => ?_) (fun c2 => ?_)
        · replace h := fn c2 h
          refine lv_iconst (v := (0 : Int32)) hx hb dX5_faulty_80 (by decide) ?_
          refine lv_istore_n (lv' := [(2, .int (0 : Int32)), (0, .ref (a 0)), (1, .int y1)]) hx hb dX5_faulty_81 rfl hl (by decide) rfl (fun ls hl => ?_)
          exact w82 FU M y1 (0 : Int32) _ _ ls h hP hD hS (lv_sub hl [1, 2, 0] rfl)
        · replace h := fp c2 h
          refine lv_aload_n hx hb dX5_faulty_51 rfl (lv_at hl 0 rfl) ?_
          refine va_get (D := D) (ci := 5) (v := .int (M 12 2)) (C := RX5) (T := TX5) (N := 23) hx hb ht i_X5 hown hK hP 0 rfl rfl 7 (by decide) (ht _ wd_543) (fun _ h9 => h9) rfl dX5_faulty_52 ?_
          refine lv_istore_n (lv' := [(2, .int (M 12 2)), (0, .ref (a 0)), (1, .int y1)]) hx hb dX5_faulty_55 rfl hl (by decide) rfl (fun ls hl => ?_)
          refine lv_aload_n hx hb dX5_faulty_56 rfl (lv_at hl 1 rfl) ?_
          refine lv_aload_n hx hb dX5_faulty_57 rfl (lv_at hl 1 rfl) ?_
          obtain ⟨u3, M4, e5, h⟩ := b2_ok h
          refine cl_Vi (ws' := (wX5 a cI cC cO M4)) ⟨hx, hb, hml, hown, ht⟩ (c_X5_doesNext l D cI cC cO a M _ _ e5) (cwv 0 ht wd_797 wd_6 wd_794 wd_796 ws_43 (by decide +kernel) rfl rfl ⟨Nat.le_of_ble_eq_true rfl, Nat.le_of_ble_eq_true rfl⟩) 5 0 rfl rfl rfl hK hP hD hS hA hN [0, 1, 2, 3, 4, 5, 6, 7, 8, 9, 10, 11, 12] [] [0, 1, 2, 3, 4, 5, 6, 7, 8, 9, 10, 11, 12] (by decide) rfl rfl (by decide) (by decide) rfl (by decide) rfl hl.1 rfl (Nat.le_of_ble_eq_true rfl) dX5_faulty_58 ⟨Nat.le_of_ble_eq_true rfl, Nat.le_of_ble_eq_true rfl⟩ (fun H locs hP hD hS => ?_)
          refine va_put (D := D) (ci := 5) (v := .int u3) (ty := .int) (C := RX5) (T := TX5) (N := 23) hx hb ht i_X5 tyX5 tyX5_ok nmX5 hown hK hP hD hS 0 rfl rfl 8 (by decide) (ht _ wd_544) (fun _ h9 => h9) rfl (by decide +kernel) rfl rfl (Nat.le_of_ble_eq_true rfl) dX5_faulty_61 (fun H locs hP hD hS => ?_)
          obtain ⟨M6, e7, h⟩ := sv_ok h
          have hP : va_P D classes (wX5 a cI cC cO M6) H := by rw [← e7]; exact hP
          have hD : va_D A (wX5 a cI cC cO M6) := by rw [← e7]; exact hD
          refine lv_aload_n hx hb dX5_faulty_64 rfl (lv_at hl 1 rfl) ?_
          refine va_get (D := D) (ci := 5) (v := .int (M6 12 3)) (C := RX5) (T := TX5) (N := 23) hx hb ht i_X5 hown hK hP 0 rfl rfl 8 (by decide) (ht _ wd_544) (fun _ h9 => h9) rfl dX5_faulty_65 ?_
          refine lv_if_le (tgt := 75) hx hb dX5_faulty_68 (by decide) (fun c8 => ?_) (fun c8 => ?_)
          · replace h := fp c8 h
            refine lv_iload_n hx hb dX5_faulty_75 rfl (lv_at hl 2 rfl) ?_
            refine lv_istore_n (lv' := [(1, .int y1), (2, .int (M 12 2)), (0, .ref (a 0))]) hx hb dX5_faulty_76 rfl hl (by decide) rfl (fun ls hl => ?_)
            refine lv_goto (tgt := 34) hx hb dX5_faulty_77 (by decide) ?_
            exact ih34 M6 y1 _ _ ls h hP hD hS (lv_sub hl [2, 0] rfl)
          · replace h := fn c8 h
            refine lv_iload_n hx hb dX5_faulty_71 rfl (lv_at hl 0 rfl) ?_
            refine lv_goto (tgt := 76) hx hb dX5_faulty_72 (by decide) ?_
            refine lv_istore_n (lv' := [(1, .int (M 12 2)), (2, .int (M 12 2)), (0, .ref (a 0))]) hx hb dX5_faulty_76 rfl hl (by decide) rfl (fun ls hl => ?_)
            refine lv_goto (tgt := 34) hx hb dX5_faulty_77 (by decide) ?_
            exact ih34 M6 (M 12 2) _ _ ls h hP hD hS (lv_sub hl [2, 0] rfl)
  have w2 : ∀ (n2 : Nat) (M : Mm) (y1 : Int32) (H : Heap) (locs : List Loc) (ls : Array Slot), F_X5_faulty_2 n2 M y1 = some res → va_P D classes (wX5 a cI cC cO M) H → va_D A (wX5 a cI cC cO M) → va_S A s.heap H locs → lv_has ls 3 [(0, .ref (a 0)), (1, .int y1)] → W p l e ({ frames := 4, cells := 0, slots := 0, locals := 90 } : Room) s m ([.ref (a 0)] : List Value).toArray below meth c H locs 0 0 (MQ below (QI D cI cC cO A (wX5 a cI cC cO res.2) res.1) ([.ref (a 0)] : List Value).toArray s 0 0 A) (F0 m 2 ls []) := by
    intro n2
    induction n2 with
    | zero => intro M y1 H locs ls h hP hD hS hl; exact absurd (show (none : Option (Int32 × Mm)) = some res from h) (by simp)
    | succ n2 ih2 =>
      intro M y1 H locs ls h hP hD hS hl
      have h : F_X5_faultyB_2 (F_X5_faulty_2 n2) M y1 = some res := h
      unfold F_X5_faultyB_2 at h
      refine lv_iload_n hx hb dX5_faulty_2 rfl (lv_at hl 1 rfl) ?_
      refine lv_bipush (v := (74 : Int32)) hx hb dX5_faulty_3 (by decide) ?_
      refine lv_icmp_ge (tgt := 26) hx hb dX5_faulty_5 (by decide) (fun c1 => ?_) (fun c1 => ?_)
      · replace h := fp c1 h
        refine lv_ldc hx hb hown (ht _ wd_691) dX5_faulty_26 ?_
        refine lv_istore_n (lv' := [(1, .int (-1000004 : Int32)), (0, .ref (a 0))]) hx hb dX5_faulty_28 rfl hl (by decide) rfl (fun ls hl => ?_)
        refine lv_aload_n hx hb dX5_faulty_29 rfl (lv_at hl 1 rfl) ?_
        refine lv_iconst (v := (0 : Int32)) hx hb dX5_faulty_30 (by decide) ?_
        refine va_put (D := D) (ci := 5) (v := .int (0 : Int32)) (ty := .int) (C := RX5) (T := TX5) (N := 23) hx hb ht i_X5 tyX5 tyX5_ok nmX5 hown hK hP hD hS 0 rfl rfl 7 (by decide) (ht _ wd_543) (fun _ h9 => h9) rfl (by decide +kernel) rfl rfl (Nat.le_of_ble_eq_true rfl) dX5_faulty_31 (fun H locs hP hD hS => ?_)
        obtain ⟨M2, e3, h⟩ := sv_ok h
        have hP : va_P D classes (wX5 a cI cC cO M2) H := by rw [← e3]; exact hP
        have hD : va_D A (wX5 a cI cC cO M2) := by rw [← e3]; exact hD
        exact w34 FU M2 (-1000004 : Int32) _ _ ls h hP hD hS (lv_sub hl [1, 0] rfl)
      · replace h := fn c1 h
        refine lv_aload_n hx hb dX5_faulty_8 rfl (lv_at hl 0 rfl) ?_
        refine va_get (D := D) (ci := 5) (v := .ref (a 4)) (C := RX5) (T := TX5) (N := 23) hx hb ht i_X5 hown hK hP 0 rfl rfl 3 (by decide) (ht _ wd_539) (fun _ h9 => h9) rfl dX5_faulty_9 ?_
        refine lv_iload_n hx hb dX5_faulty_12 rfl (lv_at hl 1 rfl) ?_
        refine lv_aload_n hx hb dX5_faulty_13 rfl (lv_at hl 0 rfl) ?_
        refine va_get (D := D) (ci := 5) (v := .ref (a 1)) (C := RX5) (T := TX5) (N := 23) hx hb ht i_X5 hown hK hP 0 rfl rfl 0 (by decide) (ht _ wd_536) (fun _ h9 => h9) rfl dX5_faulty_14 ?_
        refine lv_iload_n hx hb dX5_faulty_17 rfl (lv_at hl 1 rfl) ?_
        obtain ⟨i4, h⟩ := ck_ok h
        refine va_iald hx hb hK hP 1 0 rfl rfl i4 dX5_faulty_18 ?_
        obtain ⟨i5, h⟩ := ck_ok h
        refine va_iast hx hb hK hP hD hS 4 0 rfl rfl i5 dX5_faulty_19 (fun H locs hP hD hS => ?_)
        obtain ⟨M6, e7, h⟩ := sv_ok h
        have hP : va_P D classes (wX5 a cI cC cO M6) H := by rw [← e7]; exact hP
        have hD : va_D A (wX5 a cI cC cO M6) := by rw [← e7]; exact hD
        refine lv_iinc (v := (y1 + 1)) (lv' := [(1, .int (y1 + 1)), (0, .ref (a 0))]) hx hb dX5_faulty_20 hl (k := 1) rfl rfl (by decide) rfl (fun ls hl => ?_)
        refine lv_goto (tgt := 2) hx hb dX5_faulty_23 (by decide) ?_
        exact ih2 M6 (y1 + 1) _ _ ls h hP hD hS (lv_sub hl [1, 0] rfl)
  unfold F_X5_faulty at h
  refine lv_iconst (v := (0 : Int32)) hx hb dX5_faulty_0 (by decide) ?_
  refine lv_istore_n (lv' := [(1, .int (0 : Int32)), (0, .ref (a 0))]) hx hb dX5_faulty_1 rfl hl (by decide) rfl (fun ls hl => ?_)
  exact w2 FU M (0 : Int32) _ _ ls h hP hD hS (lv_sub hl [1, 0] rfl)
theorem dX5_fault_0 : decode cX5_fault 0 = .ok (.iload_n 1, 1) := by decide +kernel
theorem dX5_fault_1 : decode cX5_fault 1 = .ok (.iconst 0, 1) := by decide +kernel
theorem dX5_fault_2 : decode cX5_fault 2 = .ok (.iconst 2, 1) := by decide +kernel
theorem dX5_fault_3 : decode cX5_fault 3 = .ok (.invokestatic 63, 3) := by decide +kernel
theorem dX5_fault_6 : decode cX5_fault 6 = .ok (.ifCond .ne 6, 3) := by decide +kernel
theorem dX5_fault_9 : decode cX5_fault 9 = .ok (.ldc 67, 2) := by decide +kernel
theorem dX5_fault_11 : decode cX5_fault 11 = .ok (.ireturn, 1) := by decide +kernel
theorem dX5_fault_12 : decode cX5_fault 12 = .ok (.aload_n 0, 1) := by decide +kernel
theorem dX5_fault_13 : decode cX5_fault 13 = .ok (.invokevirtual 187, 3) := by decide +kernel
theorem dX5_fault_16 : decode cX5_fault 16 = .ok (.istore_n 2, 1) := by decide +kernel
theorem dX5_fault_17 : decode cX5_fault 17 = .ok (.iload_n 2, 1) := by decide +kernel
theorem dX5_fault_18 : decode cX5_fault 18 = .ok (.ldc 104, 2) := by decide +kernel
theorem dX5_fault_20 : decode cX5_fault 20 = .ok (.if_icmp .eq 7, 3) := by decide +kernel
theorem dX5_fault_23 : decode cX5_fault 23 = .ok (.iload_n 1, 1) := by decide +kernel
theorem dX5_fault_24 : decode cX5_fault 24 = .ok (.ifCond .ne 7, 3) := by decide +kernel
theorem dX5_fault_27 : decode cX5_fault 27 = .ok (.iload_n 2, 1) := by decide +kernel
theorem dX5_fault_28 : decode cX5_fault 28 = .ok (.goto 19, 3) := by decide +kernel
theorem dX5_fault_31 : decode cX5_fault 31 = .ok (.iload_n 1, 1) := by decide +kernel
theorem dX5_fault_32 : decode cX5_fault 32 = .ok (.iconst 1, 1) := by decide +kernel
theorem dX5_fault_33 : decode cX5_fault 33 = .ok (.if_icmp .ne 10, 3) := by decide +kernel
theorem dX5_fault_36 : decode cX5_fault 36 = .ok (.aload_n 0, 1) := by decide +kernel
theorem dX5_fault_37 : decode cX5_fault 37 = .ok (.getfield 184, 3) := by decide +kernel
theorem dX5_fault_40 : decode cX5_fault 40 = .ok (.goto 7, 3) := by decide +kernel
theorem dX5_fault_43 : decode cX5_fault 43 = .ok (.aload_n 0, 1) := by decide +kernel
theorem dX5_fault_44 : decode cX5_fault 44 = .ok (.getfield 172, 3) := by decide +kernel
theorem dX5_fault_47 : decode cX5_fault 47 = .ok (.ireturn, 1) := by decide +kernel
set_option maxHeartbeats 4000000 in
set_option maxRecDepth 100000 in
theorem c_X5_fault (l : Launch) (D : va_G) (cI cC cO : ClassId) (a : Nat → Nat) (M : Mm) (x1 : Int32) (res : Int32 × Mm) (sz : Nat) (h : F_X5_fault M x1 = some res) : Met l yX5_fault (Cond.code yX5_fault cX5_fault 3 (Option.some Jvm.ClassFile.FieldType.int) :: lw_g) ({ frames := 5, cells := 0, slots := 0, locals := 112 } : Room) (va_Pc [.ref (a 0), .int x1] (pS D cI cC cO sz (wX5 a cI cC cO M))) (QI D cI cC cO (va_A (wX5 a cI cC cO M) sz) (wX5 a cI cC cO res.2) res.1) 0 0 (va_A (wX5 a cI cC cO M) sz) := by
  refine Met.ofW (cc := cX5_fault) (maxL := 3) (ret := (Option.some Jvm.ClassFile.FieldType.int)) (by decide) rfl ?_
  intro p e s m args below meth c s₁ B hml hv
  obtain ⟨rfl, rfl, hP, hK, hD0, hN⟩ := hv
  have hx := B.exec
  have hb := B.bytes
  have hr := B.returns
  have ht : ∀ w ∈ lw_g, w.before ([.ref (a 0), .int x1] : List Value).toArray s = true := fun w hw => atoms_spec (ws := Cond.code yX5_fault cX5_fault 3 (Option.some Jvm.ClassFile.FieldType.int) :: lw_g) B.pre w (List.mem_cons_of_mem _ hw)
  have hown : s.vm.findClass RX5 = some m.cls := findClass_of_methodNamed B.named
  have hlocks := B.notSynchronized
  have hD := hD0.self (sz := s.heap.size)
  generalize hAe : va_A (wX5 a cI cC cO M) s.heap.size = A at hD ⊢
  have hA : ∀ q : Nat, s.heap.size ≤ q → A q := fun q hq => by rw [← hAe]; exact Or.inr hq
  have hS : va_S A s.heap s.heap [] := va_S.rf
  have hl := lv_entry ([.ref (a 0), .int x1]) (n := 3) (Nat.le_of_ble_eq_true rfl)
  rw [lg_entry_eq]
  generalize (lg_sl ([.ref (a 0), .int x1]) ++ List.replicate (3 - (lg_sl ([.ref (a 0), .int x1])).length) Slot.unset).toArray = ls at hl ⊢
  have hl : lv_has ls 3 [(0, .ref (a 0)), (1, .int x1)] := hl
  unfold F_X5_fault at h
  refine lv_iload_n hx hb dX5_fault_0 rfl (lv_at hl 1 rfl) ?_
  refine lv_iconst (v := (0 : Int32)) hx hb dX5_fault_1 (by decide) ?_
  refine lv_iconst (v := (2 : Int32)) hx hb dX5_fault_2 (by decide) ?_
  obtain ⟨u1, e2, h⟩ := b1_ok h
  refine cl_Si (ws' := (wX5 a cI cC cO M)) ⟨hx, hb, hml, hown, ht⟩ (c_X5_in l D cI cC cO x1 (0 : Int32) (2 : Int32) _ _ e2) (cwst 3 ht wd_612 wd_6 wd_610 wd_611 (by decide +kernel) rfl rfl ⟨Nat.le_of_ble_eq_true rfl, Nat.le_of_ble_eq_true rfl⟩) hK hP hD hS hA hN [] [0, 1, 2, 3, 4, 5, 6, 7, 8, 9, 10, 11, 12] [0, 1, 2, 3, 4, 5, 6, 7, 8, 9, 10, 11, 12] (by decide) rfl rfl (by decide) (by decide) rfl (by decide) rfl hl.1 rfl (Nat.le_of_ble_eq_true rfl) dX5_fault_3 ⟨Nat.le_of_ble_eq_true rfl, Nat.le_of_ble_eq_true rfl⟩ (fun H locs hP hD hS => ?_)
  refine lv_if_ne (tgt := 12) hx hb dX5_fault_6 (by decide) (fun c3 => ?_) (fun c3 => ?_)
  · replace h := fn c3 h
    refine lv_aload_n hx hb dX5_fault_12 rfl (lv_at hl 0 rfl) ?_
    obtain ⟨u4, M5, e6, h⟩ := b2_ok h
    refine cl_Vi (ws' := (wX5 a cI cC cO M5)) ⟨hx, hb, hml, hown, ht⟩ (c_X5_faulty l D cI cC cO a M _ _ e6) (cwv 0 ht wd_793 wd_6 wd_790 wd_792 ws_42 (by decide +kernel) rfl rfl ⟨Nat.le_of_ble_eq_true rfl, Nat.le_of_ble_eq_true rfl⟩) 5 0 rfl rfl rfl hK hP hD hS hA hN [0, 1, 2, 3, 4, 5, 6, 7, 8, 9, 10, 11, 12] [] [0, 1, 2, 3, 4, 5, 6, 7, 8, 9, 10, 11, 12] (by decide) rfl rfl (by decide) (by decide) rfl (by decide) rfl hl.1 rfl (Nat.le_of_ble_eq_true rfl) dX5_fault_13 ⟨Nat.le_of_ble_eq_true rfl, Nat.le_of_ble_eq_true rfl⟩ (fun H locs hP hD hS => ?_)
    refine lv_istore_n (lv' := [(2, .int u4), (0, .ref (a 0)), (1, .int x1)]) hx hb dX5_fault_16 rfl hl (by decide) rfl (fun ls hl => ?_)
    refine lv_iload_n hx hb dX5_fault_17 rfl (lv_at hl 0 rfl) ?_
    refine lv_ldc hx hb hown (ht _ wd_691) dX5_fault_18 ?_
    refine lv_icmp_eq (tgt := 27) hx hb dX5_fault_20 (by decide) (fun c7 => ?_) (fun c7 => ?_)
    · replace h := fp c7 h
      refine lv_iload_n hx hb dX5_fault_27 rfl (lv_at hl 0 rfl) ?_
      refine lv_goto (tgt := 47) hx hb dX5_fault_28 (by decide) ?_
      cases h
      exact rt_i hx hb hr hlocks hS hP hK hD dX5_fault_47
    · replace h := fn c7 h
      refine lv_iload_n hx hb dX5_fault_23 rfl (lv_at hl 2 rfl) ?_
      refine lv_if_ne (tgt := 31) hx hb dX5_fault_24 (by decide) (fun c8 => ?_) (fun c8 => ?_)
      · replace h := fn c8 h
        refine lv_iload_n hx hb dX5_fault_31 rfl (lv_at hl 2 rfl) ?_
        refine lv_iconst (v := (1 : Int32)) hx hb dX5_fault_32 (by decide) ?_
        refine lv_icmp_ne (tgt := 43) hx hb dX5_fault_33 (by decide) (fun c9 => ?_) (fun c9 => ?_)
        · replace h := fn c9 h
          refine lv_aload_n hx hb dX5_fault_43 rfl (lv_at hl 1 rfl) ?_
          refine va_get (D := D) (ci := 5) (v := .int (M5 12 4)) (C := RX5) (T := TX5) (N := 23) hx hb ht i_X5 hown hK hP 0 rfl rfl 9 (by decide) (ht _ wd_545) (fun _ h9 => h9) rfl dX5_fault_44 ?_
          cases h
          exact rt_i hx hb hr hlocks hS hP hK hD dX5_fault_47
        · replace h := fp c9 h
          refine lv_aload_n hx hb dX5_fault_36 rfl (lv_at hl 1 rfl) ?_
          refine va_get (D := D) (ci := 5) (v := .int (M5 12 3)) (C := RX5) (T := TX5) (N := 23) hx hb ht i_X5 hown hK hP 0 rfl rfl 8 (by decide) (ht _ wd_544) (fun _ h9 => h9) rfl dX5_fault_37 ?_
          refine lv_goto (tgt := 47) hx hb dX5_fault_40 (by decide) ?_
          cases h
          exact rt_i hx hb hr hlocks hS hP hK hD dX5_fault_47
      · replace h := fp c8 h
        refine lv_iload_n hx hb dX5_fault_27 rfl (lv_at hl 0 rfl) ?_
        refine lv_goto (tgt := 47) hx hb dX5_fault_28 (by decide) ?_
        cases h
        exact rt_i hx hb hr hlocks hS hP hK hD dX5_fault_47
  · replace h := fp c3 h
    refine lv_ldc hx hb hown (ht _ wd_613) dX5_fault_9 ?_
    cases h
    exact rt_i hx hb hr hlocks hS hP hK hD dX5_fault_11
theorem dX5_play_0 : decode cX5_play 0 = .ok (.aload_n 0, 1) := by decide +kernel
theorem dX5_play_1 : decode cX5_play 1 = .ok (.invokevirtual 187, 3) := by decide +kernel
theorem dX5_play_4 : decode cX5_play 4 = .ok (.ldc 104, 2) := by decide +kernel
theorem dX5_play_6 : decode cX5_play 6 = .ok (.if_icmp .eq 6, 3) := by decide +kernel
theorem dX5_play_9 : decode cX5_play 9 = .ok (.ldc 159, 2) := by decide +kernel
theorem dX5_play_11 : decode cX5_play 11 = .ok (.ireturn, 1) := by decide +kernel
theorem dX5_play_12 : decode cX5_play 12 = .ok (.aload_n 0, 1) := by decide +kernel
theorem dX5_play_13 : decode cX5_play 13 = .ok (.invokevirtual 72, 3) := by decide +kernel
theorem dX5_play_16 : decode cX5_play 16 = .ok (.iconst 0, 1) := by decide +kernel
theorem dX5_play_17 : decode cX5_play 17 = .ok (.istore_n 1, 1) := by decide +kernel
theorem dX5_play_18 : decode cX5_play 18 = .ok (.aload_n 0, 1) := by decide +kernel
theorem dX5_play_19 : decode cX5_play 19 = .ok (.iconst 0, 1) := by decide +kernel
theorem dX5_play_20 : decode cX5_play 20 = .ok (.putfield 160, 3) := by decide +kernel
theorem dX5_play_23 : decode cX5_play 23 = .ok (.aload_n 0, 1) := by decide +kernel
theorem dX5_play_24 : decode cX5_play 24 = .ok (.getfield 160, 3) := by decide +kernel
theorem dX5_play_27 : decode cX5_play 27 = .ok (.aload_n 0, 1) := by decide +kernel
theorem dX5_play_28 : decode cX5_play 28 = .ok (.getfield 156, 3) := by decide +kernel
theorem dX5_play_31 : decode cX5_play 31 = .ok (.if_icmp .ge 21, 3) := by decide +kernel
theorem dX5_play_34 : decode cX5_play 34 = .ok (.iload_n 1, 1) := by decide +kernel
theorem dX5_play_35 : decode cX5_play 35 = .ok (.aload_n 0, 1) := by decide +kernel
theorem dX5_play_36 : decode cX5_play 36 = .ok (.invokevirtual 181, 3) := by decide +kernel
theorem dX5_play_39 : decode cX5_play 39 = .ok (.ifCond .ne 7, 3) := by decide +kernel
theorem dX5_play_42 : decode cX5_play 42 = .ok (.iconst 1, 1) := by decide +kernel
theorem dX5_play_43 : decode cX5_play 43 = .ok (.goto 4, 3) := by decide +kernel
theorem dX5_play_46 : decode cX5_play 46 = .ok (.iconst 0, 1) := by decide +kernel
theorem dX5_play_47 : decode cX5_play 47 = .ok (.iadd, 1) := by decide +kernel
theorem dX5_play_48 : decode cX5_play 48 = .ok (.istore_n 1, 1) := by decide +kernel
theorem dX5_play_49 : decode cX5_play 49 = .ok (.goto (-26), 3) := by decide +kernel
theorem dX5_play_52 : decode cX5_play 52 = .ok (.aload_n 0, 1) := by decide +kernel
theorem dX5_play_53 : decode cX5_play 53 = .ok (.iload_n 1, 1) := by decide +kernel
theorem dX5_play_54 : decode cX5_play 54 = .ok (.invokevirtual 79, 3) := by decide +kernel
theorem dX5_play_57 : decode cX5_play 57 = .ok (.ireturn, 1) := by decide +kernel
set_option maxHeartbeats 4000000 in
set_option maxRecDepth 100000 in
theorem c_X5_play (l : Launch) (D : va_G) (cI cC cO : ClassId) (a : Nat → Nat) (M : Mm) (res : Int32 × Mm) (sz : Nat) (h : F_X5_play M = some res) : Met l yX5_play (Cond.code yX5_play cX5_play 2 (Option.some Jvm.ClassFile.FieldType.int) :: lw_g) ({ frames := 5, cells := 0, slots := 0, locals := 112 } : Room) (va_Pc [.ref (a 0)] (pS D cI cC cO sz (wX5 a cI cC cO M))) (QI D cI cC cO (va_A (wX5 a cI cC cO M) sz) (wX5 a cI cC cO res.2) res.1) 0 0 (va_A (wX5 a cI cC cO M) sz) := by
  refine Met.ofW (cc := cX5_play) (maxL := 2) (ret := (Option.some Jvm.ClassFile.FieldType.int)) (by decide) rfl ?_
  intro p e s m args below meth c s₁ B hml hv
  obtain ⟨rfl, rfl, hP, hK, hD0, hN⟩ := hv
  have hx := B.exec
  have hb := B.bytes
  have hr := B.returns
  have ht : ∀ w ∈ lw_g, w.before ([.ref (a 0)] : List Value).toArray s = true := fun w hw => atoms_spec (ws := Cond.code yX5_play cX5_play 2 (Option.some Jvm.ClassFile.FieldType.int) :: lw_g) B.pre w (List.mem_cons_of_mem _ hw)
  have hown : s.vm.findClass RX5 = some m.cls := findClass_of_methodNamed B.named
  have hlocks := B.notSynchronized
  have hD := hD0.self (sz := s.heap.size)
  generalize hAe : va_A (wX5 a cI cC cO M) s.heap.size = A at hD ⊢
  have hA : ∀ q : Nat, s.heap.size ≤ q → A q := fun q hq => by rw [← hAe]; exact Or.inr hq
  have hS : va_S A s.heap s.heap [] := va_S.rf
  have hl := lv_entry ([.ref (a 0)]) (n := 2) (Nat.le_of_ble_eq_true rfl)
  rw [lg_entry_eq]
  generalize (lg_sl ([.ref (a 0)]) ++ List.replicate (2 - (lg_sl ([.ref (a 0)])).length) Slot.unset).toArray = ls at hl ⊢
  have hl : lv_has ls 2 [(0, .ref (a 0))] := hl
  have w23 : ∀ (n23 : Nat) (M : Mm) (y1 : Int32) (H : Heap) (locs : List Loc) (ls : Array Slot), F_X5_play_23 n23 M y1 = some res → va_P D classes (wX5 a cI cC cO M) H → va_D A (wX5 a cI cC cO M) → va_S A s.heap H locs → lv_has ls 2 [(0, .ref (a 0)), (1, .int y1)] → W p l e ({ frames := 5, cells := 0, slots := 0, locals := 112 } : Room) s m ([.ref (a 0)] : List Value).toArray below meth c H locs 0 0 (MQ below (QI D cI cC cO A (wX5 a cI cC cO res.2) res.1) ([.ref (a 0)] : List Value).toArray s 0 0 A) (F0 m 23 ls []) := by
    intro n23
    induction n23 with
    | zero => intro M y1 H locs ls h hP hD hS hl; exact absurd (show (none : Option (Int32 × Mm)) = some res from h) (by simp)
    | succ n23 ih23 =>
      intro M y1 H locs ls h hP hD hS hl
      have h : F_X5_playB_23 (F_X5_play_23 n23) M y1 = some res := h
      unfold F_X5_playB_23 at h
      refine lv_aload_n hx hb dX5_play_23 rfl (lv_at hl 0 rfl) ?_
      refine va_get (D := D) (ci := 5) (v := .int (M 12 2)) (C := RX5) (T := TX5) (N := 23) hx hb ht i_X5 hown hK hP 0 rfl rfl 7 (by decide) (ht _ wd_543) (fun _ h9 => h9) rfl dX5_play_24 ?_
      refine lv_aload_n hx hb dX5_play_27 rfl (lv_at hl 0 rfl) ?_
      refine va_get (D := D) (ci := 5) (v := .int (M 12 1)) (C := RX5) (T := TX5) (N := 23) hx hb ht i_X5 hown hK hP 0 rfl rfl 6 (by decide) (ht _ wd_542) (fun _ h9 => h9) rfl dX5_play_28 ?_
      refine lv_icmp_ge (tgt := 52) hx hb dX5_play_31 (by decide) (fun c1 => ?_) (fun c1 => ?_)
      · replace h := fp c1 h
        refine lv_aload_n hx hb dX5_play_52 rfl (lv_at hl 0 rfl) ?_
        refine lv_iload_n hx hb dX5_play_53 rfl (lv_at hl 1 rfl) ?_
        obtain ⟨u2, M3, e4, h⟩ := b2_ok h
        refine cl_Vi (ws' := (wX5 a cI cC cO M3)) ⟨hx, hb, hml, hown, ht⟩ (c_X5_acted l D cI cC cO a M y1 _ _ e4) (cwv 1 ht wd_626 wd_6 wd_623 wd_625 ws_22 (by decide +kernel) rfl rfl ⟨Nat.le_of_ble_eq_true rfl, Nat.le_of_ble_eq_true rfl⟩) 5 0 rfl rfl rfl hK hP hD hS hA hN [0, 1, 2, 3, 4, 5, 6, 7, 8, 9, 10, 11, 12] [] [0, 1, 2, 3, 4, 5, 6, 7, 8, 9, 10, 11, 12] (by decide) rfl rfl (by decide) (by decide) rfl (by decide) rfl hl.1 rfl (Nat.le_of_ble_eq_true rfl) dX5_play_54 ⟨Nat.le_of_ble_eq_true rfl, Nat.le_of_ble_eq_true rfl⟩ (fun H locs hP hD hS => ?_)
        cases h
        exact rt_i hx hb hr hlocks hS hP hK hD dX5_play_57
      · replace h := fn c1 h
        refine lv_iload_n hx hb dX5_play_34 rfl (lv_at hl 1 rfl) ?_
        refine lv_aload_n hx hb dX5_play_35 rfl (lv_at hl 0 rfl) ?_
        obtain ⟨u5, M6, e7, h⟩ := b2_ok h
        refine cl_Vi (ws' := (wX5 a cI cC cO M6)) ⟨hx, hb, hml, hown, ht⟩ (c_X5_doesNext l D cI cC cO a M _ _ e7) (cwv 0 ht wd_797 wd_6 wd_794 wd_796 ws_43 (by decide +kernel) rfl rfl ⟨Nat.le_of_ble_eq_true rfl, Nat.le_of_ble_eq_true rfl⟩) 5 0 rfl rfl rfl hK hP hD hS hA hN [0, 1, 2, 3, 4, 5, 6, 7, 8, 9, 10, 11, 12] [] [0, 1, 2, 3, 4, 5, 6, 7, 8, 9, 10, 11, 12] (by decide) rfl rfl (by decide) (by decide) rfl (by decide) rfl hl.1 rfl (Nat.le_of_ble_eq_true rfl) dX5_play_36 ⟨Nat.le_of_ble_eq_true rfl, Nat.le_of_ble_eq_true rfl⟩ (fun H locs hP hD hS => ?_)
        refine lv_if_ne (tgt := 46) hx hb dX5_play_39 (by decide) (fun c8 => ?_) (fun c8 => ?_)
        · replace h := fn c8 h
          refine lv_iconst (v := (0 : Int32)) hx hb dX5_play_46 (by decide) ?_
          refine lv_iadd hx hb dX5_play_47 ?_
          refine lv_istore_n (lv' := [(1, .int (y1 + (0 : Int32))), (0, .ref (a 0))]) hx hb dX5_play_48 rfl hl (by decide) rfl (fun ls hl => ?_)
          refine lv_goto (tgt := 23) hx hb dX5_play_49 (by decide) ?_
          exact ih23 M6 (y1 + (0 : Int32)) _ _ ls h hP hD hS (lv_sub hl [1, 0] rfl)
        · replace h := fp c8 h
          refine lv_iconst (v := (1 : Int32)) hx hb dX5_play_42 (by decide) ?_
          refine lv_goto (tgt := 47) hx hb dX5_play_43 (by decide) ?_
          refine lv_iadd hx hb dX5_play_47 ?_
          refine lv_istore_n (lv' := [(1, .int (y1 + (1 : Int32))), (0, .ref (a 0))]) hx hb dX5_play_48 rfl hl (by decide) rfl (fun ls hl => ?_)
          refine lv_goto (tgt := 23) hx hb dX5_play_49 (by decide) ?_
          exact ih23 M6 (y1 + (1 : Int32)) _ _ ls h hP hD hS (lv_sub hl [1, 0] rfl)
  unfold F_X5_play at h
  refine lv_aload_n hx hb dX5_play_0 rfl (lv_at hl 0 rfl) ?_
  obtain ⟨u1, M2, e3, h⟩ := b2_ok h
  refine cl_Vi (ws' := (wX5 a cI cC cO M2)) ⟨hx, hb, hml, hown, ht⟩ (c_X5_faulty l D cI cC cO a M _ _ e3) (cwv 0 ht wd_793 wd_6 wd_790 wd_792 ws_42 (by decide +kernel) rfl rfl ⟨Nat.le_of_ble_eq_true rfl, Nat.le_of_ble_eq_true rfl⟩) 5 0 rfl rfl rfl hK hP hD hS hA hN [0, 1, 2, 3, 4, 5, 6, 7, 8, 9, 10, 11, 12] [] [0, 1, 2, 3, 4, 5, 6, 7, 8, 9, 10, 11, 12] (by decide) rfl rfl (by decide) (by decide) rfl (by decide) rfl hl.1 rfl (Nat.le_of_ble_eq_true rfl) dX5_play_1 ⟨Nat.le_of_ble_eq_true rfl, Nat.le_of_ble_eq_true rfl⟩ (fun H locs hP hD hS => ?_)
  refine lv_ldc hx hb hown (ht _ wd_691) dX5_play_4 ?_
  refine lv_icmp_eq (tgt := 12) hx hb dX5_play_6 (by decide) (fun c4 => ?_) (fun c4 => ?_)
  · replace h := fp c4 h
    refine lv_aload_n hx hb dX5_play_12 rfl (lv_at hl 0 rfl) ?_
    obtain ⟨M5, e6, h⟩ := b1_ok h
    refine cl_Vv (ws' := (wX5 a cI cC cO M5)) ⟨hx, hb, hml, hown, ht⟩ (c_X5_keeps l D cI cC cO a M2 _ _ e6) (cwv 0 ht wd_617 wd_6 wd_614 wd_616 ws_20 (by decide +kernel) rfl rfl ⟨Nat.le_of_ble_eq_true rfl, Nat.le_of_ble_eq_true rfl⟩) 5 0 rfl rfl rfl hK hP hD hS hA hN [0, 1, 2, 3, 4, 5, 6, 7, 8, 9, 10, 11, 12] [] [0, 1, 2, 3, 4, 5, 6, 7, 8, 9, 10, 11, 12] (by decide) rfl rfl (by decide) (by decide) rfl (by decide) rfl hl.1 rfl (Nat.le_of_ble_eq_true rfl) dX5_play_13 ⟨Nat.le_of_ble_eq_true rfl, Nat.le_of_ble_eq_true rfl⟩ (fun H locs hP hD hS => ?_)
    refine lv_iconst (v := (0 : Int32)) hx hb dX5_play_16 (by decide) ?_
    refine lv_istore_n (lv' := [(1, .int (0 : Int32)), (0, .ref (a 0))]) hx hb dX5_play_17 rfl hl (by decide) rfl (fun ls hl => ?_)
    refine lv_aload_n hx hb dX5_play_18 rfl (lv_at hl 1 rfl) ?_
    refine lv_iconst (v := (0 : Int32)) hx hb dX5_play_19 (by decide) ?_
    refine va_put (D := D) (ci := 5) (v := .int (0 : Int32)) (ty := .int) (C := RX5) (T := TX5) (N := 23) hx hb ht i_X5 tyX5 tyX5_ok nmX5 hown hK hP hD hS 0 rfl rfl 7 (by decide) (ht _ wd_543) (fun _ h9 => h9) rfl (by decide +kernel) rfl rfl (Nat.le_of_ble_eq_true rfl) dX5_play_20 (fun H locs hP hD hS => ?_)
    obtain ⟨M7, e8, h⟩ := sv_ok h
    have hP : va_P D classes (wX5 a cI cC cO M7) H := by rw [← e8]; exact hP
    have hD : va_D A (wX5 a cI cC cO M7) := by rw [← e8]; exact hD
    exact w23 FU M7 (0 : Int32) _ _ ls h hP hD hS (lv_sub hl [1, 0] rfl)
  · replace h := fn c4 h
    refine lv_ldc hx hb hown (ht _ wd_777) dX5_play_9 ?_
    cases h
    exact rt_i hx hb hr hlocks hS hP hK hD dX5_play_11
