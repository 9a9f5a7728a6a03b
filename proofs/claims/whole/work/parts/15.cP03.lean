theorem dX4_wanting_0 : decode cX4_wanting 0 = .ok (.iload_n 1, 1) := by decide +kernel
theorem dX4_wanting_1 : decode cX4_wanting 1 = .ok (.invokestatic 119, 3) := by decide +kernel
theorem dX4_wanting_4 : decode cX4_wanting 4 = .ok (.ifCond .eq 23, 3) := by decide +kernel
theorem dX4_wanting_7 : decode cX4_wanting 7 = .ok (.aload_n 0, 1) := by decide +kernel
theorem dX4_wanting_8 : decode cX4_wanting 8 = .ok (.getfield 10, 3) := by decide +kernel
theorem dX4_wanting_11 : decode cX4_wanting 11 = .ok (.iload_n 2, 1) := by decide +kernel
theorem dX4_wanting_12 : decode cX4_wanting 12 = .ok (.invokevirtual 106, 3) := by decide +kernel
theorem dX4_wanting_15 : decode cX4_wanting 15 = .ok (.ifCond .eq 12, 3) := by decide +kernel
theorem dX4_wanting_18 : decode cX4_wanting 18 = .ok (.iload_n 3, 1) := by decide +kernel
theorem dX4_wanting_19 : decode cX4_wanting 19 = .ok (.iconst 0, 1) := by decide +kernel
theorem dX4_wanting_20 : decode cX4_wanting 20 = .ok (.iload_n 1, 1) := by decide +kernel
theorem dX4_wanting_21 : decode cX4_wanting 21 = .ok (.invokestatic 89, 3) := by decide +kernel
theorem dX4_wanting_24 : decode cX4_wanting 24 = .ok (.ifCond .ne 6, 3) := by decide +kernel
theorem dX4_wanting_27 : decode cX4_wanting 27 = .ok (.ldc 41, 2) := by decide +kernel
theorem dX4_wanting_29 : decode cX4_wanting 29 = .ok (.ireturn, 1) := by decide +kernel
theorem dX4_wanting_30 : decode cX4_wanting 30 = .ok (.aload_n 0, 1) := by decide +kernel
theorem dX4_wanting_31 : decode cX4_wanting 31 = .ok (.getfield 26, 3) := by decide +kernel
theorem dX4_wanting_34 : decode cX4_wanting 34 = .ok (.aload_n 0, 1) := by decide +kernel
theorem dX4_wanting_35 : decode cX4_wanting 35 = .ok (.getfield 10, 3) := by decide +kernel
theorem dX4_wanting_38 : decode cX4_wanting 38 = .ok (.iload_n 1, 1) := by decide +kernel
theorem dX4_wanting_39 : decode cX4_wanting 39 = .ok (.invokevirtual 122, 3) := by decide +kernel
theorem dX4_wanting_42 : decode cX4_wanting 42 = .ok (.pop, 1) := by decide +kernel
theorem dX4_wanting_43 : decode cX4_wanting 43 = .ok (.aload_n 0, 1) := by decide +kernel
theorem dX4_wanting_44 : decode cX4_wanting 44 = .ok (.getfield 26, 3) := by decide +kernel
theorem dX4_wanting_47 : decode cX4_wanting 47 = .ok (.iload_n 2, 1) := by decide +kernel
theorem dX4_wanting_48 : decode cX4_wanting 48 = .ok (.iload_n 3, 1) := by decide +kernel
theorem dX4_wanting_49 : decode cX4_wanting 49 = .ok (.invokevirtual 140, 3) := by decide +kernel
theorem dX4_wanting_52 : decode cX4_wanting 52 = .ok (.ifCond .eq 7, 3) := by decide +kernel
theorem dX4_wanting_55 : decode cX4_wanting 55 = .ok (.iconst 1, 1) := by decide +kernel
theorem dX4_wanting_56 : decode cX4_wanting 56 = .ok (.goto 4, 3) := by decide +kernel
theorem dX4_wanting_59 : decode cX4_wanting 59 = .ok (.iconst 0, 1) := by decide +kernel
theorem dX4_wanting_60 : decode cX4_wanting 60 = .ok (.ireturn, 1) := by decide +kernel
set_option maxHeartbeats 4000000 in
set_option maxRecDepth 100000 in
theorem c_X4_wanting (l : Launch) (D : va_G) (cI cC cO : ClassId) (o : Nat → Nat) (a : Nat → Nat) (g : Nat → Nat) (ga : Nat → Nat → Nat) (f : Nat → Nat) (n : Nat → Nat) (t : Nat → Nat) (r : Nat → Nat) (L : Mm) (K : Mm) (P : Nat → Nat) (Hs : Nat → Mm) (S : Mm) (N : Mm) (T : Mm) (R : Mm) (x1 x2 x3 : Int32) (res : Int32 × Mm × Mm) (sz : Nat) (h : F_X4_wanting L K P Hs S N T R x1 x2 x3 = some res) : Met l yX4_wanting (Cond.code yX4_wanting cX4_wanting 4 (Option.some Jvm.ClassFile.FieldType.int) :: lw_g) ({ frames := 6, cells := 0, slots := 0, locals := 139 } : Room) (va_Pc [.ref (o 0), .int x1, .int x2, .int x3] (pS D cI cC cO sz (wX4 o a g ga f n t r cI cC cO L K P Hs S N T R))) (QI D cI cC cO (va_A (wX4 o a g ga f n t r cI cC cO L K P Hs S N T R) sz) (wX4 o a g ga f n t r cI cC cO L K P Hs res.2.1 res.2.2 T R) res.1) 0 0 (va_A (wX4 o a g ga f n t r cI cC cO L K P Hs S N T R) sz) := by
  refine Met.ofW (cc := cX4_wanting) (maxL := 4) (ret := (Option.some Jvm.ClassFile.FieldType.int)) (by decide) rfl ?_
  intro p e s m args below meth c s₁ B hml hv
  obtain ⟨rfl, rfl, hP, hK, hD0, hN⟩ := hv
  have hx := B.exec
  have hb := B.bytes
  have hr := B.returns
  have ht : ∀ w ∈ lw_g, w.before ([.ref (o 0), .int x1, .int x2, .int x3] : List Value).toArray s = true := fun w hw => atoms_spec (ws := Cond.code yX4_wanting cX4_wanting 4 (Option.some Jvm.ClassFile.FieldType.int) :: lw_g) B.pre w (List.mem_cons_of_mem _ hw)
  have hown : s.vm.findClass RX4 = some m.cls := findClass_of_methodNamed B.named
  have hlocks := B.notSynchronized
  have hD := hD0.self (sz := s.heap.size)
  generalize hAe : va_A (wX4 o a g ga f n t r cI cC cO L K P Hs S N T R) s.heap.size = A at hD ⊢
  have hA : ∀ q : Nat, s.heap.size ≤ q → A q := fun q hq => by rw [← hAe]; exact Or.inr hq
  have hS : va_S A s.heap s.heap [] := va_S.rf
  have hl := lv_entry ([.ref (o 0), .int x1, .int x2, .int x3]) (n := 4) (Nat.le_of_ble_eq_true rfl)
  rw [lg_entry_eq]
  generalize (lg_sl ([.ref (o 0), .int x1, .int x2, .int x3]) ++ List.replicate (4 - (lg_sl ([.ref (o 0), .int x1, .int x2, .int x3])).length) Slot.unset).toArray = ls at hl ⊢
  have hl : lv_has ls 4 [(0, .ref (o 0)), (1, .int x1), (2, .int x2), (3, .int x3)] := hl
  unfold F_X4_wanting at h
  refine lv_iload_n hx hb dX4_wanting_0 rfl (lv_at hl 1 rfl) ?_
  obtain ⟨u1, e2, h⟩ := b1_ok h
  refine cp_Si (ws' := (wX4 o a g ga f n t r cI cC cO L K P Hs S N T R)) ⟨hx, hb, hml, hown, ht⟩ (c_X4_isTick l D cI cC cO x1 _ _ e2) (cwst 1 ht wd_238 wd_1 wd_345 wd_237 (by decide +kernel) rfl rfl ⟨Nat.le_of_ble_eq_true rfl, Nat.le_of_ble_eq_true rfl⟩) hK hP hD hS hA hN (pm1_0 _) (pm2_0 _) rfl hl.1 rfl (Nat.le_of_ble_eq_true rfl) dX4_wanting_1 ⟨Nat.le_of_ble_eq_true rfl, Nat.le_of_ble_eq_true rfl⟩ (fun H locs hP hD hS => ?_)
  refine lv_if_eq (tgt := 27) hx hb dX4_wanting_4 (by decide) (fun c3 => ?_) (fun c3 => ?_)
  · replace h := fp c3 h
    refine lv_ldc hx hb hown (ht _ wd_162) dX4_wanting_27 ?_
    cases h
    exact rt_i hx hb hr hlocks hS hP hK hD dX4_wanting_29
  · replace h := fn c3 h
    refine lv_aload_n hx hb dX4_wanting_7 rfl (lv_at hl 0 rfl) ?_
    refine va_get (D := D) (ci := 4) (v := .ref (a 0)) (C := RX4) (T := TX4) (N := 4) hx hb ht i_X4 hown hK hP 0 rfl rfl 0 (by decide) (ht _ wd_138) (fun _ h9 => h9) rfl dX4_wanting_8 ?_
    refine lv_iload_n hx hb dX4_wanting_11 rfl (lv_at hl 2 rfl) ?_
    obtain ⟨u4, e5, h⟩ := b1_ok h
    refine cp_Vi (ws' := (wX4 o a g ga f n t r cI cC cO L K P Hs S N T R)) ⟨hx, hb, hml, hown, ht⟩ (c_X1_isPlace l D cI cC cO a L x2 _ _ e5) (cwv 1 ht wd_198 wd_2 wd_265 wd_196 wd_197 (by decide +kernel) rfl rfl ⟨Nat.le_of_ble_eq_true rfl, Nat.le_of_ble_eq_true rfl⟩) 1 0 rfl rfl rfl hK hP hD hS hA hN (pm1_a _ _ _ _ _ _) (pm2_a _ _ _ _ _ _) rfl hl.1 rfl (Nat.le_of_ble_eq_true rfl) dX4_wanting_12 ⟨Nat.le_of_ble_eq_true rfl, Nat.le_of_ble_eq_true rfl⟩ (fun H locs hP hD hS => ?_)
    refine lv_if_eq (tgt := 27) hx hb dX4_wanting_15 (by decide) (fun c6 => ?_) (fun c6 => ?_)
    · replace h := fp c6 h
      refine lv_ldc hx hb hown (ht _ wd_162) dX4_wanting_27 ?_
      cases h
      exact rt_i hx hb hr hlocks hS hP hK hD dX4_wanting_29
    · replace h := fn c6 h
      refine lv_iload_n hx hb dX4_wanting_18 rfl (lv_at hl 3 rfl) ?_
      refine lv_iconst (v := (0 : Int32)) hx hb dX4_wanting_19 (by decide) ?_
      refine lv_iload_n hx hb dX4_wanting_20 rfl (lv_at hl 1 rfl) ?_
      obtain ⟨u7, e8, h⟩ := b1_ok h
      refine cp_Si (ws' := (wX4 o a g ga f n t r cI cC cO L K P Hs S N T R)) ⟨hx, hb, hml, hown, ht⟩ (c_X4_within l D cI cC cO x3 (0 : Int32) x1 _ _ e8) (cwst 3 ht wd_161 wd_1 wd_239 wd_160 (by decide +kernel) rfl rfl ⟨Nat.le_of_ble_eq_true rfl, Nat.le_of_ble_eq_true rfl⟩) hK hP hD hS hA hN (pm1_0 _) (pm2_0 _) rfl hl.1 rfl (Nat.le_of_ble_eq_true rfl) dX4_wanting_21 ⟨Nat.le_of_ble_eq_true rfl, Nat.le_of_ble_eq_true rfl⟩ (fun H locs hP hD hS => ?_)
      refine lv_if_ne (tgt := 30) hx hb dX4_wanting_24 (by decide) (fun c9 => ?_) (fun c9 => ?_)
      · replace h := fn c9 h
        refine lv_aload_n hx hb dX4_wanting_30 rfl (lv_at hl 0 rfl) ?_
        refine va_get (D := D) (ci := 4) (v := .ref (f 0)) (C := RX4) (T := TX4) (N := 4) hx hb ht i_X4 hown hK hP 0 rfl rfl 2 (by decide) (ht _ wd_140) (fun _ h9 => h9) rfl dX4_wanting_31 ?_
        refine lv_aload_n hx hb dX4_wanting_34 rfl (lv_at hl 0 rfl) ?_
        refine va_get (D := D) (ci := 4) (v := .ref (a 0)) (C := RX4) (T := TX4) (N := 4) hx hb ht i_X4 hown hK hP 0 rfl rfl 0 (by decide) (ht _ wd_138) (fun _ h9 => h9) rfl dX4_wanting_35 ?_
        refine lv_iload_n hx hb dX4_wanting_38 rfl (lv_at hl 1 rfl) ?_
        obtain ⟨u10, S11, N12, e13, h⟩ := b3_ok h
        refine cp_Vi (ws' := (wX4 o a g ga f n t r cI cC cO L K P Hs S11 N12 T R)) ⟨hx, hb, hml, hown, ht⟩ (c_X3_most l D cI cC cO f n a S N L x1 _ _ e13) (cwv 2 ht wd_349 wd_4 wd_346 wd_347 wd_348 (by decide +kernel) rfl rfl ⟨Nat.le_of_ble_eq_true rfl, Nat.le_of_ble_eq_true rfl⟩) 3 0 rfl rfl rfl hK hP hD hS hA hN (pm1_fa _ _ _ _ _ _) (pm2_fa _ _ _ _ _ _) rfl hl.1 rfl (Nat.le_of_ble_eq_true rfl) dX4_wanting_39 ⟨Nat.le_of_ble_eq_true rfl, Nat.le_of_ble_eq_true rfl⟩ (fun H locs hP hD hS => ?_)
        refine lv_pop hx hb dX4_wanting_42 rfl ?_
        refine lv_aload_n hx hb dX4_wanting_43 rfl (lv_at hl 0 rfl) ?_
        refine va_get (D := D) (ci := 4) (v := .ref (f 0)) (C := RX4) (T := TX4) (N := 4) hx hb ht i_X4 hown hK hP 0 rfl rfl 2 (by decide) (ht _ wd_140) (fun _ h9 => h9) rfl dX4_wanting_44 ?_
        refine lv_iload_n hx hb dX4_wanting_47 rfl (lv_at hl 2 rfl) ?_
        refine lv_iload_n hx hb dX4_wanting_48 rfl (lv_at hl 3 rfl) ?_
        obtain ⟨u14, e15, h⟩ := b1_ok h
        refine cp_Vi (ws' := (wX4 o a g ga f n t r cI cC cO L K P Hs S11 N12 T R)) ⟨hx, hb, hml, hown, ht⟩ (c_X3_isWanting l D cI cC cO f n S11 N12 x2 x3 _ _ e15) (cwv 2 ht wd_390 wd_4 wd_395 wd_388 wd_389 (by decide +kernel) rfl rfl ⟨Nat.le_of_ble_eq_true rfl, Nat.le_of_ble_eq_true rfl⟩) 3 0 rfl rfl rfl hK hP hD hS hA hN (pm1_f _ _ _ _ _ _) (pm2_f _ _ _ _ _ _) rfl hl.1 rfl (Nat.le_of_ble_eq_true rfl) dX4_wanting_49 ⟨Nat.le_of_ble_eq_true rfl, Nat.le_of_ble_eq_true rfl⟩ (fun H locs hP hD hS => ?_)
        refine lv_if_eq (tgt := 59) hx hb dX4_wanting_52 (by decide) (fun c16 => ?_) (fun c16 => ?_)
        · replace h := fp c16 h
          refine lv_iconst (v := (0 : Int32)) hx hb dX4_wanting_59 (by decide) ?_
          cases h
          exact rt_i hx hb hr hlocks hS hP hK hD dX4_wanting_60
        · replace h := fn c16 h
          refine lv_iconst (v := (1 : Int32)) hx hb dX4_wanting_55 (by decide) ?_
          refine lv_goto (tgt := 60) hx hb dX4_wanting_56 (by decide) ?_
          cases h
          exact rt_i hx hb hr hlocks hS hP hK hD dX4_wanting_60
      · replace h := fp c9 h
        refine lv_ldc hx hb hown (ht _ wd_162) dX4_wanting_27 ?_
        cases h
        exact rt_i hx hb hr hlocks hS hP hK hD dX4_wanting_29
theorem dX4_dearest_0 : decode cX4_dearest 0 = .ok (.iload_n 1, 1) := by decide +kernel
theorem dX4_dearest_1 : decode cX4_dearest 1 = .ok (.invokestatic 119, 3) := by decide +kernel
theorem dX4_dearest_4 : decode cX4_dearest 4 = .ok (.ifCond .eq 12, 3) := by decide +kernel
theorem dX4_dearest_7 : decode cX4_dearest 7 = .ok (.iload_n 2, 1) := by decide +kernel
theorem dX4_dearest_8 : decode cX4_dearest 8 = .ok (.iconst 0, 1) := by decide +kernel
theorem dX4_dearest_9 : decode cX4_dearest 9 = .ok (.iconst 1, 1) := by decide +kernel
theorem dX4_dearest_10 : decode cX4_dearest 10 = .ok (.invokestatic 89, 3) := by decide +kernel
theorem dX4_dearest_13 : decode cX4_dearest 13 = .ok (.ifCond .ne 6, 3) := by decide +kernel
theorem dX4_dearest_16 : decode cX4_dearest 16 = .ok (.ldc 41, 2) := by decide +kernel
theorem dX4_dearest_18 : decode cX4_dearest 18 = .ok (.ireturn, 1) := by decide +kernel
theorem dX4_dearest_19 : decode cX4_dearest 19 = .ok (.aload_n 0, 1) := by decide +kernel
theorem dX4_dearest_20 : decode cX4_dearest 20 = .ok (.getfield 10, 3) := by decide +kernel
theorem dX4_dearest_23 : decode cX4_dearest 23 = .ok (.getfield 72, 3) := by decide +kernel
theorem dX4_dearest_26 : decode cX4_dearest 26 = .ok (.ifCond .ne 6, 3) := by decide +kernel
theorem dX4_dearest_29 : decode cX4_dearest 29 = .ok (.ldc 144, 2) := by decide +kernel
theorem dX4_dearest_31 : decode cX4_dearest 31 = .ok (.ireturn, 1) := by decide +kernel
theorem dX4_dearest_32 : decode cX4_dearest 32 = .ok (.aload_n 0, 1) := by decide +kernel
theorem dX4_dearest_33 : decode cX4_dearest 33 = .ok (.getfield 26, 3) := by decide +kernel
theorem dX4_dearest_36 : decode cX4_dearest 36 = .ok (.aload_n 0, 1) := by decide +kernel
theorem dX4_dearest_37 : decode cX4_dearest 37 = .ok (.getfield 10, 3) := by decide +kernel
theorem dX4_dearest_40 : decode cX4_dearest 40 = .ok (.iload_n 1, 1) := by decide +kernel
theorem dX4_dearest_41 : decode cX4_dearest 41 = .ok (.invokevirtual 122, 3) := by decide +kernel
theorem dX4_dearest_44 : decode cX4_dearest 44 = .ok (.istore_n 3, 1) := by decide +kernel
theorem dX4_dearest_45 : decode cX4_dearest 45 = .ok (.aload_n 0, 1) := by decide +kernel
theorem dX4_dearest_46 : decode cX4_dearest 46 = .ok (.getfield 26, 3) := by decide +kernel
theorem dX4_dearest_49 : decode cX4_dearest 49 = .ok (.invokevirtual 145, 3) := by decide +kernel
theorem dX4_dearest_52 : decode cX4_dearest 52 = .ok (.istore 4, 2) := by decide +kernel
theorem dX4_dearest_54 : decode cX4_dearest 54 = .ok (.iconst 0, 1) := by decide +kernel
theorem dX4_dearest_55 : decode cX4_dearest 55 = .ok (.istore 5, 2) := by decide +kernel
theorem dX4_dearest_57 : decode cX4_dearest 57 = .ok (.iconst 0, 1) := by decide +kernel
theorem dX4_dearest_58 : decode cX4_dearest 58 = .ok (.istore 6, 2) := by decide +kernel
theorem dX4_dearest_60 : decode cX4_dearest 60 = .ok (.iload 6, 2) := by decide +kernel
theorem dX4_dearest_62 : decode cX4_dearest 62 = .ok (.aload_n 0, 1) := by decide +kernel
theorem dX4_dearest_63 : decode cX4_dearest 63 = .ok (.getfield 10, 3) := by decide +kernel
theorem dX4_dearest_66 : decode cX4_dearest 66 = .ok (.getfield 72, 3) := by decide +kernel
theorem dX4_dearest_69 : decode cX4_dearest 69 = .ok (.if_icmp .ge 52, 3) := by decide +kernel
theorem dX4_dearest_72 : decode cX4_dearest 72 = .ok (.iload 4, 2) := by decide +kernel
theorem dX4_dearest_74 : decode cX4_dearest 74 = .ok (.iload 6, 2) := by decide +kernel
theorem dX4_dearest_76 : decode cX4_dearest 76 = .ok (.invokestatic 148, 3) := by decide +kernel
theorem dX4_dearest_79 : decode cX4_dearest 79 = .ok (.ifCond .eq 20, 3) := by decide +kernel
theorem dX4_dearest_82 : decode cX4_dearest 82 = .ok (.aload_n 0, 1) := by decide +kernel
theorem dX4_dearest_83 : decode cX4_dearest 83 = .ok (.getfield 26, 3) := by decide +kernel
theorem dX4_dearest_86 : decode cX4_dearest 86 = .ok (.aload_n 0, 1) := by decide +kernel
theorem dX4_dearest_87 : decode cX4_dearest 87 = .ok (.getfield 10, 3) := by decide +kernel
theorem dX4_dearest_90 : decode cX4_dearest 90 = .ok (.iload 6, 2) := by decide +kernel
theorem dX4_dearest_92 : decode cX4_dearest 92 = .ok (.iload_n 1, 1) := by decide +kernel
theorem dX4_dearest_93 : decode cX4_dearest 93 = .ok (.invokevirtual 151, 3) := by decide +kernel
theorem dX4_dearest_96 : decode cX4_dearest 96 = .ok (.goto 4, 3) := by decide +kernel
theorem dX4_dearest_99 : decode cX4_dearest 99 = .ok (.iload_n 3, 1) := by decide +kernel
theorem dX4_dearest_100 : decode cX4_dearest 100 = .ok (.istore 7, 2) := by decide +kernel
theorem dX4_dearest_102 : decode cX4_dearest 102 = .ok (.iload 7, 2) := by decide +kernel
theorem dX4_dearest_104 : decode cX4_dearest 104 = .ok (.iload_n 3, 1) := by decide +kernel
theorem dX4_dearest_105 : decode cX4_dearest 105 = .ok (.if_icmp .ge 10, 3) := by decide +kernel
theorem dX4_dearest_108 : decode cX4_dearest 108 = .ok (.iload 7, 2) := by decide +kernel
theorem dX4_dearest_110 : decode cX4_dearest 110 = .ok (.istore_n 3, 1) := by decide +kernel
theorem dX4_dearest_111 : decode cX4_dearest 111 = .ok (.iload 6, 2) := by decide +kernel
theorem dX4_dearest_113 : decode cX4_dearest 113 = .ok (.istore 5, 2) := by decide +kernel
theorem dX4_dearest_115 : decode cX4_dearest 115 = .ok (.iinc 6 1, 3) := by decide +kernel
theorem dX4_dearest_118 : decode cX4_dearest 118 = .ok (.goto (-58), 3) := by decide +kernel
theorem dX4_dearest_121 : decode cX4_dearest 121 = .ok (.iload_n 2, 1) := by decide +kernel
theorem dX4_dearest_122 : decode cX4_dearest 122 = .ok (.ifCond .ne 8, 3) := by decide +kernel
theorem dX4_dearest_125 : decode cX4_dearest 125 = .ok (.iload 5, 2) := by decide +kernel
theorem dX4_dearest_127 : decode cX4_dearest 127 = .ok (.goto 4, 3) := by decide +kernel
theorem dX4_dearest_130 : decode cX4_dearest 130 = .ok (.iload_n 3, 1) := by decide +kernel
theorem dX4_dearest_131 : decode cX4_dearest 131 = .ok (.ireturn, 1) := by decide +kernel
set_option maxHeartbeats 4000000 in
set_option maxRecDepth 100000 in
theorem c_X4_dearest (l : Launch) (D : va_G) (cI cC cO : ClassId) (o : Nat → Nat) (a : Nat → Nat) (g : Nat → Nat) (ga : Nat → Nat → Nat) (f : Nat → Nat) (n : Nat → Nat) (t : Nat → Nat) (r : Nat → Nat) (L : Mm) (K : Mm) (P : Nat → Nat) (Hs : Nat → Mm) (S : Mm) (N : Mm) (T : Mm) (R : Mm) (x1 x2 : Int32) (res : Int32 × Mm × Mm) (sz : Nat) (h : F_X4_dearest L K P Hs S N T R x1 x2 = some res) : Met l yX4_dearest (Cond.code yX4_dearest cX4_dearest 8 (Option.some Jvm.ClassFile.FieldType.int) :: lw_g) ({ frames := 6, cells := 0, slots := 0, locals := 140 } : Room) (va_Pc [.ref (o 0), .int x1, .int x2] (pS D cI cC cO sz (wX4 o a g ga f n t r cI cC cO L K P Hs S N T R))) (QI D cI cC cO (va_A (wX4 o a g ga f n t r cI cC cO L K P Hs S N T R) sz) (wX4 o a g ga f n t r cI cC cO L K P Hs res.2.1 res.2.2 T R) res.1) 0 0 (va_A (wX4 o a g ga f n t r cI cC cO L K P Hs S N T R) sz) := by
  refine Met.ofW (cc := cX4_dearest) (maxL := 8) (ret := (Option.some Jvm.ClassFile.FieldType.int)) (by decide) rfl ?_
  intro p e s m args below meth c s₁ B hml hv
  obtain ⟨rfl, rfl, hP, hK, hD0, hN⟩ := hv
  have hx := B.exec
  have hb := B.bytes
  have hr := B.returns
  have ht : ∀ w ∈ lw_g, w.before ([.ref (o 0), .int x1, .int x2] : List Value).toArray s = true := fun w hw => atoms_spec (ws := Cond.code yX4_dearest cX4_dearest 8 (Option.some Jvm.ClassFile.FieldType.int) :: lw_g) B.pre w (List.mem_cons_of_mem _ hw)
  have hown : s.vm.findClass RX4 = some m.cls := findClass_of_methodNamed B.named
  have hlocks := B.notSynchronized
  have hD := hD0.self (sz := s.heap.size)
  generalize hAe : va_A (wX4 o a g ga f n t r cI cC cO L K P Hs S N T R) s.heap.size = A at hD ⊢
  have hA : ∀ q : Nat, s.heap.size ≤ q → A q := fun q hq => by rw [← hAe]; exact Or.inr hq
  have hS : va_S A s.heap s.heap [] := va_S.rf
  have hl := lv_entry ([.ref (o 0), .int x1, .int x2]) (n := 8) (Nat.le_of_ble_eq_true rfl)
  rw [lg_entry_eq]
  generalize (lg_sl ([.ref (o 0), .int x1, .int x2]) ++ List.replicate (8 - (lg_sl ([.ref (o 0), .int x1, .int x2])).length) Slot.unset).toArray = ls at hl ⊢
  have hl : lv_has ls 8 [(0, .ref (o 0)), (1, .int x1), (2, .int x2)] := hl
  have w60 : ∀ (n60 : Nat) (S : Mm) (N : Mm) (y1 y2 y3 y4 y5 y6 : Int32) (H : Heap) (locs : List Loc) (ls : Array Slot), F_X4_dearest_60 n60 L K P Hs S N T R y1 y2 y3 y4 y5 y6 = some res → va_P D classes (wX4 o a g ga f n t r cI cC cO L K P Hs S N T R) H → va_D A (wX4 o a g ga f n t r cI cC cO L K P Hs S N T R) → va_S A s.heap H locs → lv_has ls 8 [(0, .ref (o 0)), (1, .int y1), (2, .int y2), (3, .int y3), (4, .int y4), (5, .int y5), (6, .int y6)] → W p l e ({ frames := 6, cells := 0, slots := 0, locals := 140 } : Room) s m ([.ref (o 0), .int x1, .int x2] : List Value).toArray below meth c H locs 0 0 (MQ below (QI D cI cC cO A (wX4 o a g ga f n t r cI cC cO L K P Hs res.2.1 res.2.2 T R) res.1) ([.ref (o 0), .int x1, .int x2] : List Value).toArray s 0 0 A) (F0 m 60 ls []) := by
    intro n60
    induction n60 with
    | zero => intro S N y1 y2 y3 y4 y5 y6 H locs ls h hP hD hS hl; exact absurd (show (none : Option (Int32 × Mm × Mm)) = some res from h) (by simp)
    | succ n60 ih60 =>
      have w100 : ∀ (S : Mm) (N : Mm) (y1 y2 y3 y4 y5 y6 s0 : Int32) (H : Heap) (locs : List Loc) (ls : Array Slot), F_X4_dearest_100 (F_X4_dearest_60 n60) L K P Hs S N T R y1 y2 y3 y4 y5 y6 s0 = some res → va_P D classes (wX4 o a g ga f n t r cI cC cO L K P Hs S N T R) H → va_D A (wX4 o a g ga f n t r cI cC cO L K P Hs S N T R) → va_S A s.heap H locs → lv_has ls 8 [(0, .ref (o 0)), (1, .int y1), (2, .int y2), (3, .int y3), (4, .int y4), (5, .int y5), (6, .int y6)] → W p l e ({ frames := 6, cells := 0, slots := 0, locals := 140 } : Room) s m ([.ref (o 0), .int x1, .int x2] : List Value).toArray below meth c H locs 0 0 (MQ below (QI D cI cC cO A (wX4 o a g ga f n t r cI cC cO L K P Hs res.2.1 res.2.2 T R) res.1) ([.ref (o 0), .int x1, .int x2] : List Value).toArray s 0 0 A) (F0 m 100 ls [.int s0]) := by
        intro S N y1 y2 y3 y4 y5 y6 s0 H locs ls h hP hD hS hl
        unfold F_X4_dearest_100 at h
        refine lv_istore (lv' := [(7, .int s0), (0, .ref (o 0)), (1, .int y1), (2, .int y2), (3, .int y3), (4, .int y4), (5, .int y5), (6, .int y6)]) hx hb dX4_dearest_100 hl (by decide) rfl (fun ls hl => ?_)
        refine lv_iload hx hb dX4_dearest_102 (lv_at hl 0 rfl) ?_
        refine lv_iload_n hx hb dX4_dearest_104 rfl (lv_at hl 4 rfl) ?_
        refine lv_icmp_ge (tgt := 115) hx hb dX4_dearest_105 (by decide) (fun c1 => ?_) (fun c1 => ?_)
        · replace h := fp c1 h
          refine lv_iinc (v := (y6 + 1)) (lv' := [(6, .int (y6 + 1)), (7, .int s0), (0, .ref (o 0)), (1, .int y1), (2, .int y2), (3, .int y3), (4, .int y4), (5, .int y5)]) hx hb dX4_dearest_115 hl (k := 7) rfl rfl (by decide) rfl (fun ls hl => ?_)
          refine lv_goto (tgt := 60) hx hb dX4_dearest_118 (by decide) ?_
          exact ih60 S N y1 y2 y3 y4 y5 (y6 + 1) _ _ ls h hP hD hS (lv_sub hl [2, 3, 4, 5, 6, 7, 0] rfl)
        · replace h := fn c1 h
          refine lv_iload hx hb dX4_dearest_108 (lv_at hl 0 rfl) ?_
          refine lv_istore_n (lv' := [(3, .int s0), (7, .int s0), (0, .ref (o 0)), (1, .int y1), (2, .int y2), (4, .int y4), (5, .int y5), (6, .int y6)]) hx hb dX4_dearest_110 rfl hl (by decide) rfl (fun ls hl => ?_)
          refine lv_iload hx hb dX4_dearest_111 (lv_at hl 7 rfl) ?_
          refine lv_istore (lv' := [(5, .int y6), (3, .int s0), (7, .int s0), (0, .ref (o 0)), (1, .int y1), (2, .int y2), (4, .int y4), (6, .int y6)]) hx hb dX4_dearest_113 hl (by decide) rfl (fun ls hl => ?_)
          refine lv_iinc (v := (y6 + 1)) (lv' := [(6, .int (y6 + 1)), (5, .int y6), (3, .int s0), (7, .int s0), (0, .ref (o 0)), (1, .int y1), (2, .int y2), (4, .int y4)]) hx hb dX4_dearest_115 hl (k := 7) rfl rfl (by decide) rfl (fun ls hl => ?_)
          refine lv_goto (tgt := 60) hx hb dX4_dearest_118 (by decide) ?_
          exact ih60 S N y1 y2 s0 y4 y6 (y6 + 1) _ _ ls h hP hD hS (lv_sub hl [4, 5, 6, 2, 7, 1, 0] rfl)
      intro S N y1 y2 y3 y4 y5 y6 H locs ls h hP hD hS hl
      have h : F_X4_dearestB_60 (F_X4_dearest_60 n60) L K P Hs S N T R y1 y2 y3 y4 y5 y6 = some res := h
      unfold F_X4_dearestB_60 at h
      refine lv_iload hx hb dX4_dearest_60 (lv_at hl 6 rfl) ?_
      refine lv_aload_n hx hb dX4_dearest_62 rfl (lv_at hl 0 rfl) ?_
      refine va_get (D := D) (ci := 4) (v := .ref (a 0)) (C := RX4) (T := TX4) (N := 4) hx hb ht i_X4 hown hK hP 0 rfl rfl 0 (by decide) (ht _ wd_138) (fun _ h9 => h9) rfl dX4_dearest_63 ?_
      refine va_getN (D := D) (ci := 1) (v := .int (L 3 1)) (C := RX1) (T := TX1) (N := 5) hx hb ht i_X1 hown hK hP 1 rfl rfl 4 (by decide) (va_Nw.use rfl (hN.1 _ _ _ _ _ _ wd_36)) (fun _ h9 => h9) rfl dX4_dearest_66 ?_
      refine lv_icmp_ge (tgt := 121) hx hb dX4_dearest_69 (by decide) (fun c1 => ?_) (fun c1 => ?_)
      · replace h := fp c1 h
        refine lv_iload_n hx hb dX4_dearest_121 rfl (lv_at hl 2 rfl) ?_
        refine lv_if_ne (tgt := 130) hx hb dX4_dearest_122 (by decide) (fun c2 => ?_) (fun c2 => ?_)
        · replace h := fn c2 h
          refine lv_iload_n hx hb dX4_dearest_130 rfl (lv_at hl 3 rfl) ?_
          cases h
          exact rt_i hx hb hr hlocks hS hP hK hD dX4_dearest_131
        · replace h := fp c2 h
          refine lv_iload hx hb dX4_dearest_125 (lv_at hl 5 rfl) ?_
          refine lv_goto (tgt := 131) hx hb dX4_dearest_127 (by decide) ?_
          cases h
          exact rt_i hx hb hr hlocks hS hP hK hD dX4_dearest_131
      · replace h := fn c1 h
        refine lv_iload hx hb dX4_dearest_72 (lv_at hl 4 rfl) ?_
        refine lv_iload hx hb dX4_dearest_74 (lv_at hl 6 rfl) ?_
        obtain ⟨u3, e4, h⟩ := b1_ok h
        refine cp_Si (ws' := (wX4 o a g ga f n t r cI cC cO L K P Hs S N T R)) ⟨hx, hb, hml, hown, ht⟩ (c_X4_has l D cI cC cO y4 y6 _ _ e4) (cwst 2 ht wd_407 wd_1 wd_405 wd_406 (by decide +kernel) rfl rfl ⟨Nat.le_of_ble_eq_true rfl, Nat.le_of_ble_eq_true rfl⟩) hK hP hD hS hA hN (pm1_0 _) (pm2_0 _) rfl hl.1 rfl (Nat.le_of_ble_eq_true rfl) dX4_dearest_76 ⟨Nat.le_of_ble_eq_true rfl, Nat.le_of_ble_eq_true rfl⟩ (fun H locs hP hD hS => ?_)
        refine lv_if_eq (tgt := 99) hx hb dX4_dearest_79 (by decide) (fun c5 => ?_) (fun c5 => ?_)
        · replace h := fp c5 h
          refine lv_iload_n hx hb dX4_dearest_99 rfl (lv_at hl 3 rfl) ?_
          exact w100 S N y1 y2 y3 y4 y5 y6 y3 _ _ ls h hP hD hS (lv_sub hl [0, 1, 2, 3, 4, 5, 6] rfl)
        · replace h := fn c5 h
          refine lv_aload_n hx hb dX4_dearest_82 rfl (lv_at hl 0 rfl) ?_
          refine va_get (D := D) (ci := 4) (v := .ref (f 0)) (C := RX4) (T := TX4) (N := 4) hx hb ht i_X4 hown hK hP 0 rfl rfl 2 (by decide) (ht _ wd_140) (fun _ h9 => h9) rfl dX4_dearest_83 ?_
          refine lv_aload_n hx hb dX4_dearest_86 rfl (lv_at hl 0 rfl) ?_
          refine va_get (D := D) (ci := 4) (v := .ref (a 0)) (C := RX4) (T := TX4) (N := 4) hx hb ht i_X4 hown hK hP 0 rfl rfl 0 (by decide) (ht _ wd_138) (fun _ h9 => h9) rfl dX4_dearest_87 ?_
          refine lv_iload hx hb dX4_dearest_90 (lv_at hl 6 rfl) ?_
          refine lv_iload_n hx hb dX4_dearest_92 rfl (lv_at hl 1 rfl) ?_
          obtain ⟨u6, S7, N8, e9, h⟩ := b3_ok h
          refine cp_Vi (ws' := (wX4 o a g ga f n t r cI cC cO L K P Hs S7 N8 T R)) ⟨hx, hb, hml, hown, ht⟩ (c_X3_mostWithout l D cI cC cO f n a S N L y6 y1 _ _ e9) (cwv 3 ht wd_411 wd_4 wd_408 wd_409 wd_410 (by decide +kernel) rfl rfl ⟨Nat.le_of_ble_eq_true rfl, Nat.le_of_ble_eq_true rfl⟩) 3 0 rfl rfl rfl hK hP hD hS hA hN (pm1_fa _ _ _ _ _ _) (pm2_fa _ _ _ _ _ _) rfl hl.1 rfl (Nat.le_of_ble_eq_true rfl) dX4_dearest_93 ⟨Nat.le_of_ble_eq_true rfl, Nat.le_of_ble_eq_true rfl⟩ (fun H locs hP hD hS => ?_)
          refine lv_goto (tgt := 100) hx hb dX4_dearest_96 (by decide) ?_
          exact w100 S7 N8 y1 y2 y3 y4 y5 y6 u6 _ _ ls h hP hD hS (lv_sub hl [0, 1, 2, 3, 4, 5, 6] rfl)
  unfold F_X4_dearest at h
  refine lv_iload_n hx hb dX4_dearest_0 rfl (lv_at hl 1 rfl) ?_
  obtain ⟨u1, e2, h⟩ := b1_ok h
  refine cp_Si (ws' := (wX4 o a g ga f n t r cI cC cO L K P Hs S N T R)) ⟨hx, hb, hml, hown, ht⟩ (c_X4_isTick l D cI cC cO x1 _ _ e2) (cwst 1 ht wd_238 wd_1 wd_345 wd_237 (by decide +kernel) rfl rfl ⟨Nat.le_of_ble_eq_true rfl, Nat.le_of_ble_eq_true rfl⟩) hK hP hD hS hA hN (pm1_0 _) (pm2_0 _) rfl hl.1 rfl (Nat.le_of_ble_eq_true rfl) dX4_dearest_1 ⟨Nat.le_of_ble_eq_true rfl, Nat.le_of_ble_eq_true rfl⟩ (fun H locs hP hD hS => ?_)
  refine lv_if_eq (tgt := 16) hx hb dX4_dearest_4 (by decide) (fun c3 => ?_) (fun c3 => ?_)
  · replace h := fp c3 h
    refine lv_ldc hx hb hown (ht _ wd_162) dX4_dearest_16 ?_
    cases h
    exact rt_i hx hb hr hlocks hS hP hK hD dX4_dearest_18
  · replace h := fn c3 h
    refine lv_iload_n hx hb dX4_dearest_7 rfl (lv_at hl 2 rfl) ?_
    refine lv_iconst (v := (0 : Int32)) hx hb dX4_dearest_8 (by decide) ?_
    refine lv_iconst (v := (1 : Int32)) hx hb dX4_dearest_9 (by decide) ?_
    obtain ⟨u4, e5, h⟩ := b1_ok h
    refine cp_Si (ws' := (wX4 o a g ga f n t r cI cC cO L K P Hs S N T R)) ⟨hx, hb, hml, hown, ht⟩ (c_X4_within l D cI cC cO x2 (0 : Int32) (1 : Int32) _ _ e5) (cwst 3 ht wd_161 wd_1 wd_239 wd_160 (by decide +kernel) rfl rfl ⟨Nat.le_of_ble_eq_true rfl, Nat.le_of_ble_eq_true rfl⟩) hK hP hD hS hA hN (pm1_0 _) (pm2_0 _) rfl hl.1 rfl (Nat.le_of_ble_eq_true rfl) dX4_dearest_10 ⟨Nat.le_of_ble_eq_true rfl, Nat.le_of_ble_eq_true rfl⟩ (fun H locs hP hD hS => ?_)
    refine lv_if_ne (tgt := 19) hx hb dX4_dearest_13 (by decide) (fun c6 => ?_) (fun c6 => ?_)
    · replace h := fn c6 h
      refine lv_aload_n hx hb dX4_dearest_19 rfl (lv_at hl 0 rfl) ?_
      refine va_get (D := D) (ci := 4) (v := .ref (a 0)) (C := RX4) (T := TX4) (N := 4) hx hb ht i_X4 hown hK hP 0 rfl rfl 0 (by decide) (ht _ wd_138) (fun _ h9 => h9) rfl dX4_dearest_20 ?_
      refine va_getN (D := D) (ci := 1) (v := .int (L 3 1)) (C := RX1) (T := TX1) (N := 5) hx hb ht i_X1 hown hK hP 1 rfl rfl 4 (by decide) (va_Nw.use rfl (hN.1 _ _ _ _ _ _ wd_36)) (fun _ h9 => h9) rfl dX4_dearest_23 ?_
      refine lv_if_ne (tgt := 32) hx hb dX4_dearest_26 (by decide) (fun c7 => ?_) (fun c7 => ?_)
      · replace h := fn c7 h
        refine lv_aload_n hx hb dX4_dearest_32 rfl (lv_at hl 0 rfl) ?_
        refine va_get (D := D) (ci := 4) (v := .ref (f 0)) (C := RX4) (T := TX4) (N := 4) hx hb ht i_X4 hown hK hP 0 rfl rfl 2 (by decide) (ht _ wd_140) (fun _ h9 => h9) rfl dX4_dearest_33 ?_
        refine lv_aload_n hx hb dX4_dearest_36 rfl (lv_at hl 0 rfl) ?_
        refine va_get (D := D) (ci := 4) (v := .ref (a 0)) (C := RX4) (T := TX4) (N := 4) hx hb ht i_X4 hown hK hP 0 rfl rfl 0 (by decide) (ht _ wd_138) (fun _ h9 => h9) rfl dX4_dearest_37 ?_
        refine lv_iload_n hx hb dX4_dearest_40 rfl (lv_at hl 1 rfl) ?_
        obtain ⟨u8, S9, N10, e11, h⟩ := b3_ok h
        refine cp_Vi (ws' := (wX4 o a g ga f n t r cI cC cO L K P Hs S9 N10 T R)) ⟨hx, hb, hml, hown, ht⟩ (c_X3_most l D cI cC cO f n a S N L x1 _ _ e11) (cwv 2 ht wd_349 wd_4 wd_346 wd_347 wd_348 (by decide +kernel) rfl rfl ⟨Nat.le_of_ble_eq_true rfl, Nat.le_of_ble_eq_true rfl⟩) 3 0 rfl rfl rfl hK hP hD hS hA hN (pm1_fa _ _ _ _ _ _) (pm2_fa _ _ _ _ _ _) rfl hl.1 rfl (Nat.le_of_ble_eq_true rfl) dX4_dearest_41 ⟨Nat.le_of_ble_eq_true rfl, Nat.le_of_ble_eq_true rfl⟩ (fun H locs hP hD hS => ?_)
        refine lv_istore_n (lv' := [(3, .int u8), (0, .ref (o 0)), (1, .int x1), (2, .int x2)]) hx hb dX4_dearest_44 rfl hl (by decide) rfl (fun ls hl => ?_)
        refine lv_aload_n hx hb dX4_dearest_45 rfl (lv_at hl 1 rfl) ?_
        refine va_get (D := D) (ci := 4) (v := .ref (f 0)) (C := RX4) (T := TX4) (N := 4) hx hb ht i_X4 hown hK hP 0 rfl rfl 2 (by decide) (ht _ wd_140) (fun _ h9 => h9) rfl dX4_dearest_46 ?_
        obtain ⟨u12, e13, h⟩ := b1_ok h
        refine cp_Vi (ws' := (wX4 o a g ga f n t r cI cC cO L K P Hs S9 N10 T R)) ⟨hx, hb, hml, hown, ht⟩ (c_X3_usedPipes l D cI cC cO f n S9 N10 _ _ e13) (cwv 0 ht wd_404 wd_4 wd_401 wd_402 wd_403 (by decide +kernel) rfl rfl ⟨Nat.le_of_ble_eq_true rfl, Nat.le_of_ble_eq_true rfl⟩) 3 0 rfl rfl rfl hK hP hD hS hA hN (pm1_f _ _ _ _ _ _) (pm2_f _ _ _ _ _ _) rfl hl.1 rfl (Nat.le_of_ble_eq_true rfl) dX4_dearest_49 ⟨Nat.le_of_ble_eq_true rfl, Nat.le_of_ble_eq_true rfl⟩ (fun H locs hP hD hS => ?_)
        refine lv_istore (lv' := [(4, .int u12), (3, .int u8), (0, .ref (o 0)), (1, .int x1), (2, .int x2)]) hx hb dX4_dearest_52 hl (by decide) rfl (fun ls hl => ?_)
        refine lv_iconst (v := (0 : Int32)) hx hb dX4_dearest_54 (by decide) ?_
        refine lv_istore (lv' := [(5, .int (0 : Int32)), (4, .int u12), (3, .int u8), (0, .ref (o 0)), (1, .int x1), (2, .int x2)]) hx hb dX4_dearest_55 hl (by decide) rfl (fun ls hl => ?_)
        refine lv_iconst (v := (0 : Int32)) hx hb dX4_dearest_57 (by decide) ?_
        refine lv_istore (lv' := [(6, .int (0 : Int32)), (5, .int (0 : Int32)), (4, .int u12), (3, .int u8), (0, .ref (o 0)), (1, .int x1), (2, .int x2)]) hx hb dX4_dearest_58 hl (by decide) rfl (fun ls hl => ?_)
        exact w60 FU S9 N10 x1 x2 u8 u12 (0 : Int32) (0 : Int32) _ _ ls h hP hD hS (lv_sub hl [4, 5, 6, 3, 2, 1, 0] rfl)
      · replace h := fp c7 h
        refine lv_ldc hx hb hown (ht _ wd_400) dX4_dearest_29 ?_
        cases h
        exact rt_i hx hb hr hlocks hS hP hK hD dX4_dearest_31
    · replace h := fp c6 h
      refine lv_ldc hx hb hown (ht _ wd_162) dX4_dearest_16 ?_
      cases h
      exact rt_i hx hb hr hlocks hS hP hK hD dX4_dearest_18
