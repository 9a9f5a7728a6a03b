theorem dX4_placeOf_0 : decode cX4_placeOf 0 = .ok (.aload_n 0, 1) := by decide +kernel
theorem dX4_placeOf_1 : decode cX4_placeOf 1 = .ok (.getfield 10, 3) := by decide +kernel
theorem dX4_placeOf_4 : decode cX4_placeOf 4 = .ok (.iload_n 1, 1) := by decide +kernel
theorem dX4_placeOf_5 : decode cX4_placeOf 5 = .ok (.invokevirtual 106, 3) := by decide +kernel
theorem dX4_placeOf_8 : decode cX4_placeOf 8 = .ok (.ifCond .ne 6, 3) := by decide +kernel
theorem dX4_placeOf_11 : decode cX4_placeOf 11 = .ok (.ldc 41, 2) := by decide +kernel
theorem dX4_placeOf_13 : decode cX4_placeOf 13 = .ok (.ireturn, 1) := by decide +kernel
theorem dX4_placeOf_14 : decode cX4_placeOf 14 = .ok (.iload_n 2, 1) := by decide +kernel
theorem dX4_placeOf_15 : decode cX4_placeOf 15 = .ok (.tableswitch 86 0 4 #[33, 43, 53, 63, 73], 33) := by decide +kernel
theorem dX4_placeOf_48 : decode cX4_placeOf 48 = .ok (.aload_n 0, 1) := by decide +kernel
theorem dX4_placeOf_49 : decode cX4_placeOf 49 = .ok (.getfield 10, 3) := by decide +kernel
theorem dX4_placeOf_52 : decode cX4_placeOf 52 = .ok (.getfield 102, 3) := by decide +kernel
theorem dX4_placeOf_55 : decode cX4_placeOf 55 = .ok (.iload_n 1, 1) := by decide +kernel
theorem dX4_placeOf_56 : decode cX4_placeOf 56 = .ok (.iaload, 1) := by decide +kernel
theorem dX4_placeOf_57 : decode cX4_placeOf 57 = .ok (.ireturn, 1) := by decide +kernel
theorem dX4_placeOf_58 : decode cX4_placeOf 58 = .ok (.aload_n 0, 1) := by decide +kernel
theorem dX4_placeOf_59 : decode cX4_placeOf 59 = .ok (.getfield 10, 3) := by decide +kernel
theorem dX4_placeOf_62 : decode cX4_placeOf 62 = .ok (.getfield 109, 3) := by decide +kernel
theorem dX4_placeOf_65 : decode cX4_placeOf 65 = .ok (.iload_n 1, 1) := by decide +kernel
theorem dX4_placeOf_66 : decode cX4_placeOf 66 = .ok (.iaload, 1) := by decide +kernel
theorem dX4_placeOf_67 : decode cX4_placeOf 67 = .ok (.ireturn, 1) := by decide +kernel
theorem dX4_placeOf_68 : decode cX4_placeOf 68 = .ok (.aload_n 0, 1) := by decide +kernel
theorem dX4_placeOf_69 : decode cX4_placeOf 69 = .ok (.getfield 10, 3) := by decide +kernel
theorem dX4_placeOf_72 : decode cX4_placeOf 72 = .ok (.iconst 0, 1) := by decide +kernel
theorem dX4_placeOf_73 : decode cX4_placeOf 73 = .ok (.iload_n 1, 1) := by decide +kernel
theorem dX4_placeOf_74 : decode cX4_placeOf 74 = .ok (.invokevirtual 112, 3) := by decide +kernel
theorem dX4_placeOf_77 : decode cX4_placeOf 77 = .ok (.ireturn, 1) := by decide +kernel
theorem dX4_placeOf_78 : decode cX4_placeOf 78 = .ok (.aload_n 0, 1) := by decide +kernel
theorem dX4_placeOf_79 : decode cX4_placeOf 79 = .ok (.getfield 10, 3) := by decide +kernel
theorem dX4_placeOf_82 : decode cX4_placeOf 82 = .ok (.iconst 1, 1) := by decide +kernel
theorem dX4_placeOf_83 : decode cX4_placeOf 83 = .ok (.iload_n 1, 1) := by decide +kernel
theorem dX4_placeOf_84 : decode cX4_placeOf 84 = .ok (.invokevirtual 112, 3) := by decide +kernel
theorem dX4_placeOf_87 : decode cX4_placeOf 87 = .ok (.ireturn, 1) := by decide +kernel
theorem dX4_placeOf_88 : decode cX4_placeOf 88 = .ok (.aload_n 0, 1) := by decide +kernel
theorem dX4_placeOf_89 : decode cX4_placeOf 89 = .ok (.getfield 26, 3) := by decide +kernel
theorem dX4_placeOf_92 : decode cX4_placeOf 92 = .ok (.aload_n 0, 1) := by decide +kernel
theorem dX4_placeOf_93 : decode cX4_placeOf 93 = .ok (.getfield 10, 3) := by decide +kernel
theorem dX4_placeOf_96 : decode cX4_placeOf 96 = .ok (.iload_n 1, 1) := by decide +kernel
theorem dX4_placeOf_97 : decode cX4_placeOf 97 = .ok (.invokevirtual 115, 3) := by decide +kernel
theorem dX4_placeOf_100 : decode cX4_placeOf 100 = .ok (.ireturn, 1) := by decide +kernel
theorem dX4_placeOf_101 : decode cX4_placeOf 101 = .ok (.ldc 41, 2) := by decide +kernel
theorem dX4_placeOf_103 : decode cX4_placeOf 103 = .ok (.ireturn, 1) := by decide +kernel
set_option maxHeartbeats 4000000 in
set_option maxRecDepth 100000 in
theorem c_X4_placeOf (l : Launch) (D : va_G) (cI cC cO : ClassId) (o : Nat → Nat) (a : Nat → Nat) (g : Nat → Nat) (ga : Nat → Nat → Nat) (f : Nat → Nat) (n : Nat → Nat) (t : Nat → Nat) (r : Nat → Nat) (L : Mm) (K : Mm) (P : Nat → Nat) (Hs : Nat → Mm) (S : Mm) (N : Mm) (T : Mm) (R : Mm) (x1 x2 : Int32) (res : Int32 × Mm × Mm) (sz : Nat) (h : F_X4_placeOf L K P Hs S N T R x1 x2 = some res) : Met l yX4_placeOf (Cond.code yX4_placeOf cX4_placeOf 3 (Option.some Jvm.ClassFile.FieldType.int) :: lw_g) ({ frames := 6, cells := 0, slots := 0, locals := 141 } : Room) (va_Pc [.ref (o 0), .int x1, .int x2] (pS D cI cC cO sz (wX4 o a g ga f n t r cI cC cO L K P Hs S N T R))) (QI D cI cC cO (va_A (wX4 o a g ga f n t r cI cC cO L K P Hs S N T R) sz) (wX4 o a g ga f n t r cI cC cO L K P Hs res.2.1 res.2.2 T R) res.1) 0 0 (va_A (wX4 o a g ga f n t r cI cC cO L K P Hs S N T R) sz) := by
  refine Met.ofW (cc := cX4_placeOf) (maxL := 3) (ret := (Option.some Jvm.ClassFile.FieldType.int)) (by decide) rfl ?_
  intro p e s m args below meth c s₁ B hml hv
  obtain ⟨rfl, rfl, hP, hK, hD0, hN⟩ := hv
  have hx := B.exec
  have hb := B.bytes
  have hr := B.returns
  have ht : ∀ w ∈ lw_g, w.before ([.ref (o 0), .int x1, .int x2] : List Value).toArray s = true := fun w hw => atoms_spec (ws := Cond.code yX4_placeOf cX4_placeOf 3 (Option.some Jvm.ClassFile.FieldType.int) :: lw_g) B.pre w (List.mem_cons_of_mem _ hw)
  have hown : s.vm.findClass RX4 = some m.cls := findClass_of_methodNamed B.named
  have hlocks := B.notSynchronized
  have hD := hD0.self (sz := s.heap.size)
  generalize hAe : va_A (wX4 o a g ga f n t r cI cC cO L K P Hs S N T R) s.heap.size = A at hD ⊢
  have hA : ∀ q : Nat, s.heap.size ≤ q → A q := fun q hq => by rw [← hAe]; exact Or.inr hq
  have hS : va_S A s.heap s.heap [] := va_S.rf
  have hl := lv_entry ([.ref (o 0), .int x1, .int x2]) (n := 3) (Nat.le_of_ble_eq_true rfl)
  rw [lg_entry_eq]
  generalize (lg_sl ([.ref (o 0), .int x1, .int x2]) ++ List.replicate (3 - (lg_sl ([.ref (o 0), .int x1, .int x2])).length) Slot.unset).toArray = ls at hl ⊢
  have hl : lv_has ls 3 [(0, .ref (o 0)), (1, .int x1), (2, .int x2)] := hl
  unfold F_X4_placeOf at h
  refine lv_aload_n hx hb dX4_placeOf_0 rfl (lv_at hl 0 rfl) ?_
  refine va_get (D := D) (ci := 4) (v := .ref (a 0)) (C := RX4) (T := TX4) (N := 4) hx hb ht i_X4 hown hK hP 0 rfl rfl 0 (by decide) (ht _ wd_138) (fun _ h9 => h9) rfl dX4_placeOf_1 ?_
  refine lv_iload_n hx hb dX4_placeOf_4 rfl (lv_at hl 1 rfl) ?_
  obtain ⟨u1, e2, h⟩ := b1_ok h
  refine cp_Vi (ws' := (wX4 o a g ga f n t r cI cC cO L K P Hs S N T R)) ⟨hx, hb, hml, hown, ht⟩ (c_X1_isPlace l D cI cC cO a L x1 _ _ e2) (cwv 1 ht wd_198 wd_2 wd_265 wd_196 wd_197 (by decide +kernel) rfl rfl ⟨Nat.le_of_ble_eq_true rfl, Nat.le_of_ble_eq_true rfl⟩) 1 0 rfl rfl rfl hK hP hD hS hA hN (pm1_a _ _ _ _ _ _) (pm2_a _ _ _ _ _ _) rfl hl.1 rfl (Nat.le_of_ble_eq_true rfl) dX4_placeOf_5 ⟨Nat.le_of_ble_eq_true rfl, Nat.le_of_ble_eq_true rfl⟩ (fun H locs hP hD hS => ?_)
  refine lv_if_ne (tgt := 14) hx hb dX4_placeOf_8 (by decide) (fun c3 => ?_) (fun c3 => ?_)
  · replace h := fn c3 h
    refine lv_iload_n hx hb dX4_placeOf_14 rfl (lv_at hl 2 rfl) ?_
    by_cases c4 : x2 = (0 : Int32)
    · replace h := fp c4 h
      refine lv_tableIn (off := 33) (tgt := 48) hx hb dX4_placeOf_15 (by rw [c4]; decide) (by rw [c4]; decide) (by rw [c4]; rfl) (by decide) ?_
      refine lv_aload_n hx hb dX4_placeOf_48 rfl (lv_at hl 0 rfl) ?_
      refine va_get (D := D) (ci := 4) (v := .ref (a 0)) (C := RX4) (T := TX4) (N := 4) hx hb ht i_X4 hown hK hP 0 rfl rfl 0 (by decide) (ht _ wd_138) (fun _ h9 => h9) rfl dX4_placeOf_49 ?_
      refine va_getN (D := D) (ci := 1) (v := .ref (a 1)) (C := RX1) (T := TX1) (N := 5) hx hb ht i_X1 hown hK hP 1 rfl rfl 0 (by decide) (va_Nw.use rfl (hN.1 _ _ _ _ _ _ wd_26)) (fun _ h9 => h9) rfl dX4_placeOf_52 ?_
      refine lv_iload_n hx hb dX4_placeOf_55 rfl (lv_at hl 1 rfl) ?_
      obtain ⟨i5, h⟩ := ck_ok h
      refine va_iald hx hb hK hP 2 0 rfl rfl i5 dX4_placeOf_56 ?_
      cases h
      exact rt_i hx hb hr hlocks hS hP hK hD dX4_placeOf_57
    · replace h := fn c4 h
      by_cases c6 : x2 = (1 : Int32)
      · replace h := fp c6 h
        refine lv_tableIn (off := 43) (tgt := 58) hx hb dX4_placeOf_15 (by rw [c6]; decide) (by rw [c6]; decide) (by rw [c6]; rfl) (by decide) ?_
        refine lv_aload_n hx hb dX4_placeOf_58 rfl (lv_at hl 0 rfl) ?_
        refine va_get (D := D) (ci := 4) (v := .ref (a 0)) (C := RX4) (T := TX4) (N := 4) hx hb ht i_X4 hown hK hP 0 rfl rfl 0 (by decide) (ht _ wd_138) (fun _ h9 => h9) rfl dX4_placeOf_59 ?_
        refine va_getN (D := D) (ci := 1) (v := .ref (a 2)) (C := RX1) (T := TX1) (N := 5) hx hb ht i_X1 hown hK hP 1 rfl rfl 1 (by decide) (va_Nw.use rfl (hN.1 _ _ _ _ _ _ wd_30)) (fun _ h9 => h9) rfl dX4_placeOf_62 ?_
        refine lv_iload_n hx hb dX4_placeOf_65 rfl (lv_at hl 1 rfl) ?_
        obtain ⟨i7, h⟩ := ck_ok h
        refine va_iald hx hb hK hP 3 0 rfl rfl i7 dX4_placeOf_66 ?_
        cases h
        exact rt_i hx hb hr hlocks hS hP hK hD dX4_placeOf_67
      · replace h := fn c6 h
        by_cases c8 : x2 = (2 : Int32)
        · replace h := fp c8 h
          refine lv_tableIn (off := 53) (tgt := 68) hx hb dX4_placeOf_15 (by rw [c8]; decide) (by rw [c8]; decide) (by rw [c8]; rfl) (by decide) ?_
          refine lv_aload_n hx hb dX4_placeOf_68 rfl (lv_at hl 0 rfl) ?_
          refine va_get (D := D) (ci := 4) (v := .ref (a 0)) (C := RX4) (T := TX4) (N := 4) hx hb ht i_X4 hown hK hP 0 rfl rfl 0 (by decide) (ht _ wd_138) (fun _ h9 => h9) rfl dX4_placeOf_69 ?_
          refine lv_iconst (v := (0 : Int32)) hx hb dX4_placeOf_72 (by decide) ?_
          refine lv_iload_n hx hb dX4_placeOf_73 rfl (lv_at hl 1 rfl) ?_
          obtain ⟨u9, e10, h⟩ := b1_ok h
          refine cp_Vi (ws' := (wX4 o a g ga f n t r cI cC cO L K P Hs S N T R)) ⟨hx, hb, hml, hown, ht⟩ (c_X1_pipesWith l D cI cC cO a L (0 : Int32) x1 _ _ e10) (cwv 2 ht wd_277 wd_2 wd_274 wd_275 wd_276 (by decide +kernel) rfl rfl ⟨Nat.le_of_ble_eq_true rfl, Nat.le_of_ble_eq_true rfl⟩) 1 0 rfl rfl rfl hK hP hD hS hA hN (pm1_a _ _ _ _ _ _) (pm2_a _ _ _ _ _ _) rfl hl.1 rfl (Nat.le_of_ble_eq_true rfl) dX4_placeOf_74 ⟨Nat.le_of_ble_eq_true rfl, Nat.le_of_ble_eq_true rfl⟩ (fun H locs hP hD hS => ?_)
          cases h
          exact rt_i hx hb hr hlocks hS hP hK hD dX4_placeOf_77
        · replace h := fn c8 h
          by_cases c11 : x2 = (3 : Int32)
          · replace h := fp c11 h
            refine lv_tableIn (off := 63) (tgt := 78) hx hb dX4_placeOf_15 (by rw [c11]; decide) (by rw [c11]; decide) (by rw [c11]; rfl) (by decide) ?_
            refine lv_aload_n hx hb dX4_placeOf_78 rfl (lv_at hl 0 rfl) ?_
            refine va_get (D := D) (ci := 4) (v := .ref (a 0)) (C := RX4) (T := TX4) (N := 4) hx hb ht i_X4 hown hK hP 0 rfl rfl 0 (by decide) (ht _ wd_138) (fun _ h9 => h9) rfl dX4_placeOf_79 ?_
            refine lv_iconst (v := (1 : Int32)) hx hb dX4_placeOf_82 (by decide) ?_
            refine lv_iload_n hx hb dX4_placeOf_83 rfl (lv_at hl 1 rfl) ?_
            obtain ⟨u12, e13, h⟩ := b1_ok h
            refine cp_Vi (ws' := (wX4 o a g ga f n t r cI cC cO L K P Hs S N T R)) ⟨hx, hb, hml, hown, ht⟩ (c_X1_pipesWith l D cI cC cO a L (1 : Int32) x1 _ _ e13) (cwv 2 ht wd_277 wd_2 wd_274 wd_275 wd_276 (by decide +kernel) rfl rfl ⟨Nat.le_of_ble_eq_true rfl, Nat.le_of_ble_eq_true rfl⟩) 1 0 rfl rfl rfl hK hP hD hS hA hN (pm1_a _ _ _ _ _ _) (pm2_a _ _ _ _ _ _) rfl hl.1 rfl (Nat.le_of_ble_eq_true rfl) dX4_placeOf_84 ⟨Nat.le_of_ble_eq_true rfl, Nat.le_of_ble_eq_true rfl⟩ (fun H locs hP hD hS => ?_)
            cases h
            exact rt_i hx hb hr hlocks hS hP hK hD dX4_placeOf_87
          · replace h := fn c11 h
            by_cases c14 : x2 = (4 : Int32)
            · replace h := fp c14 h
              refine lv_tableIn (off := 73) (tgt := 88) hx hb dX4_placeOf_15 (by rw [c14]; decide) (by rw [c14]; decide) (by rw [c14]; rfl) (by decide) ?_
              refine lv_aload_n hx hb dX4_placeOf_88 rfl (lv_at hl 0 rfl) ?_
              refine va_get (D := D) (ci := 4) (v := .ref (f 0)) (C := RX4) (T := TX4) (N := 4) hx hb ht i_X4 hown hK hP 0 rfl rfl 2 (by decide) (ht _ wd_140) (fun _ h9 => h9) rfl dX4_placeOf_89 ?_
              refine lv_aload_n hx hb dX4_placeOf_92 rfl (lv_at hl 0 rfl) ?_
              refine va_get (D := D) (ci := 4) (v := .ref (a 0)) (C := RX4) (T := TX4) (N := 4) hx hb ht i_X4 hown hK hP 0 rfl rfl 0 (by decide) (ht _ wd_138) (fun _ h9 => h9) rfl dX4_placeOf_93 ?_
              refine lv_iload_n hx hb dX4_placeOf_96 rfl (lv_at hl 1 rfl) ?_
              obtain ⟨u15, S16, N17, e18, h⟩ := b3_ok h
              refine cp_Vi (ws' := (wX4 o a g ga f n t r cI cC cO L K P Hs S16 N17 T R)) ⟨hx, hb, hml, hown, ht⟩ (c_X3_leastTickAlone l D cI cC cO f n a S N L x1 _ _ e18) (cwv 2 ht wd_282 wd_4 wd_279 wd_280 wd_281 (by decide +kernel) rfl rfl ⟨Nat.le_of_ble_eq_true rfl, Nat.le_of_ble_eq_true rfl⟩) 3 0 rfl rfl rfl hK hP hD hS hA hN (pm1_fa _ _ _ _ _ _) (pm2_fa _ _ _ _ _ _) rfl hl.1 rfl (Nat.le_of_ble_eq_true rfl) dX4_placeOf_97 ⟨Nat.le_of_ble_eq_true rfl, Nat.le_of_ble_eq_true rfl⟩ (fun H locs hP hD hS => ?_)
              cases h
              exact rt_i hx hb hr hlocks hS hP hK hD dX4_placeOf_100
            · replace h := fn c14 h
              refine lv_tableOut (tgt := 101) hx hb dX4_placeOf_15 (sw_out (x := x2) (n := 5) (by decide) (fun k hk => match k, hk with | 0, _ => c4 | 1, _ => c6 | 2, _ => c8 | 3, _ => c11 | 4, _ => c14 | k + 5, hk => absurd hk (by omega))) (by decide) ?_
              refine lv_ldc hx hb hown (ht _ wd_162) dX4_placeOf_101 ?_
              cases h
              exact rt_i hx hb hr hlocks hS hP hK hD dX4_placeOf_103
  · replace h := fp c3 h
    refine lv_ldc hx hb hown (ht _ wd_162) dX4_placeOf_11 ?_
    cases h
    exact rt_i hx hb hr hlocks hS hP hK hD dX4_placeOf_13
theorem dX4_come_0 : decode cX4_come 0 = .ok (.iload_n 1, 1) := by decide +kernel
theorem dX4_come_1 : decode cX4_come 1 = .ok (.invokestatic 119, 3) := by decide +kernel
theorem dX4_come_4 : decode cX4_come 4 = .ok (.ifCond .eq 18, 3) := by decide +kernel
theorem dX4_come_7 : decode cX4_come 7 = .ok (.aload_n 0, 1) := by decide +kernel
theorem dX4_come_8 : decode cX4_come 8 = .ok (.getfield 26, 3) := by decide +kernel
theorem dX4_come_11 : decode cX4_come 11 = .ok (.aload_n 0, 1) := by decide +kernel
theorem dX4_come_12 : decode cX4_come 12 = .ok (.getfield 10, 3) := by decide +kernel
theorem dX4_come_15 : decode cX4_come 15 = .ok (.iload_n 1, 1) := by decide +kernel
theorem dX4_come_16 : decode cX4_come 16 = .ok (.invokevirtual 122, 3) := by decide +kernel
theorem dX4_come_19 : decode cX4_come 19 = .ok (.goto 5, 3) := by decide +kernel
theorem dX4_come_22 : decode cX4_come 22 = .ok (.ldc 41, 2) := by decide +kernel
theorem dX4_come_24 : decode cX4_come 24 = .ok (.ireturn, 1) := by decide +kernel
set_option maxHeartbeats 4000000 in
set_option maxRecDepth 100000 in
theorem c_X4_come (l : Launch) (D : va_G) (cI cC cO : ClassId) (o : Nat → Nat) (a : Nat → Nat) (g : Nat → Nat) (ga : Nat → Nat → Nat) (f : Nat → Nat) (n : Nat → Nat) (t : Nat → Nat) (r : Nat → Nat) (L : Mm) (K : Mm) (P : Nat → Nat) (Hs : Nat → Mm) (S : Mm) (N : Mm) (T : Mm) (R : Mm) (x1 : Int32) (res : Int32 × Mm × Mm) (sz : Nat) (h : F_X4_come L K P Hs S N T R x1 = some res) : Met l yX4_come (Cond.code yX4_come cX4_come 2 (Option.some Jvm.ClassFile.FieldType.int) :: lw_g) ({ frames := 6, cells := 0, slots := 0, locals := 139 } : Room) (va_Pc [.ref (o 0), .int x1] (pS D cI cC cO sz (wX4 o a g ga f n t r cI cC cO L K P Hs S N T R))) (QI D cI cC cO (va_A (wX4 o a g ga f n t r cI cC cO L K P Hs S N T R) sz) (wX4 o a g ga f n t r cI cC cO L K P Hs res.2.1 res.2.2 T R) res.1) 0 0 (va_A (wX4 o a g ga f n t r cI cC cO L K P Hs S N T R) sz) := by
  refine Met.ofW (cc := cX4_come) (maxL := 2) (ret := (Option.some Jvm.ClassFile.FieldType.int)) (by decide) rfl ?_
  intro p e s m args below meth c s₁ B hml hv
  obtain ⟨rfl, rfl, hP, hK, hD0, hN⟩ := hv
  have hx := B.exec
  have hb := B.bytes
  have hr := B.returns
  have ht : ∀ w ∈ lw_g, w.before ([.ref (o 0), .int x1] : List Value).toArray s = true := fun w hw => atoms_spec (ws := Cond.code yX4_come cX4_come 2 (Option.some Jvm.ClassFile.FieldType.int) :: lw_g) B.pre w (List.mem_cons_of_mem _ hw)
  have hown : s.vm.findClass RX4 = some m.cls := findClass_of_methodNamed B.named
  have hlocks := B.notSynchronized
  have hD := hD0.self (sz := s.heap.size)
  generalize hAe : va_A (wX4 o a g ga f n t r cI cC cO L K P Hs S N T R) s.heap.size = A at hD ⊢
  have hA : ∀ q : Nat, s.heap.size ≤ q → A q := fun q hq => by rw [← hAe]; exact Or.inr hq
  have hS : va_S A s.heap s.heap [] := va_S.rf
  have hl := lv_entry ([.ref (o 0), .int x1]) (n := 2) (Nat.le_of_ble_eq_true rfl)
  rw [lg_entry_eq]
  generalize (lg_sl ([.ref (o 0), .int x1]) ++ List.replicate (2 - (lg_sl ([.ref (o 0), .int x1])).length) Slot.unset).toArray = ls at hl ⊢
  have hl : lv_has ls 2 [(0, .ref (o 0)), (1, .int x1)] := hl
  unfold F_X4_come at h
  refine lv_iload_n hx hb dX4_come_0 rfl (lv_at hl 1 rfl) ?_
  obtain ⟨u1, e2, h⟩ := b1_ok h
  refine cp_Si (ws' := (wX4 o a g ga f n t r cI cC cO L K P Hs S N T R)) ⟨hx, hb, hml, hown, ht⟩ (c_X4_isTick l D cI cC cO x1 _ _ e2) (cwst 1 ht wd_238 wd_1 wd_345 wd_237 (by decide +kernel) rfl rfl ⟨Nat.le_of_ble_eq_true rfl, Nat.le_of_ble_eq_true rfl⟩) hK hP hD hS hA hN (pm1_0 _) (pm2_0 _) rfl hl.1 rfl (Nat.le_of_ble_eq_true rfl) dX4_come_1 ⟨Nat.le_of_ble_eq_true rfl, Nat.le_of_ble_eq_true rfl⟩ (fun H locs hP hD hS => ?_)
  refine lv_if_eq (tgt := 22) hx hb dX4_come_4 (by decide) (fun c3 => ?_) (fun c3 => ?_)
  · replace h := fp c3 h
    refine lv_ldc hx hb hown (ht _ wd_162) dX4_come_22 ?_
    cases h
    exact rt_i hx hb hr hlocks hS hP hK hD dX4_come_24
  · replace h := fn c3 h
    refine lv_aload_n hx hb dX4_come_7 rfl (lv_at hl 0 rfl) ?_
    refine va_get (D := D) (ci := 4) (v := .ref (f 0)) (C := RX4) (T := TX4) (N := 4) hx hb ht i_X4 hown hK hP 0 rfl rfl 2 (by decide) (ht _ wd_140) (fun _ h9 => h9) rfl dX4_come_8 ?_
    refine lv_aload_n hx hb dX4_come_11 rfl (lv_at hl 0 rfl) ?_
    refine va_get (D := D) (ci := 4) (v := .ref (a 0)) (C := RX4) (T := TX4) (N := 4) hx hb ht i_X4 hown hK hP 0 rfl rfl 0 (by decide) (ht _ wd_138) (fun _ h9 => h9) rfl dX4_come_12 ?_
    refine lv_iload_n hx hb dX4_come_15 rfl (lv_at hl 1 rfl) ?_
    obtain ⟨u4, S5, N6, e7, h⟩ := b3_ok h
    refine cp_Vi (ws' := (wX4 o a g ga f n t r cI cC cO L K P Hs S5 N6 T R)) ⟨hx, hb, hml, hown, ht⟩ (c_X3_most l D cI cC cO f n a S N L x1 _ _ e7) (cwv 2 ht wd_349 wd_4 wd_346 wd_347 wd_348 (by decide +kernel) rfl rfl ⟨Nat.le_of_ble_eq_true rfl, Nat.le_of_ble_eq_true rfl⟩) 3 0 rfl rfl rfl hK hP hD hS hA hN (pm1_fa _ _ _ _ _ _) (pm2_fa _ _ _ _ _ _) rfl hl.1 rfl (Nat.le_of_ble_eq_true rfl) dX4_come_16 ⟨Nat.le_of_ble_eq_true rfl, Nat.le_of_ble_eq_true rfl⟩ (fun H locs hP hD hS => ?_)
    refine lv_goto (tgt := 24) hx hb dX4_come_19 (by decide) ?_
    cases h
    exact rt_i hx hb hr hlocks hS hP hK hD dX4_come_24
theorem dX4_earliest_0 : decode cX4_earliest 0 = .ok (.iload_n 1, 1) := by decide +kernel
theorem dX4_earliest_1 : decode cX4_earliest 1 = .ok (.iconst (-1), 1) := by decide +kernel
theorem dX4_earliest_2 : decode cX4_earliest 2 = .ok (.bipush 120, 2) := by decide +kernel
theorem dX4_earliest_4 : decode cX4_earliest 4 = .ok (.invokestatic 89, 3) := by decide +kernel
theorem dX4_earliest_7 : decode cX4_earliest 7 = .ok (.ifCond .ne 6, 3) := by decide +kernel
theorem dX4_earliest_10 : decode cX4_earliest 10 = .ok (.ldc 41, 2) := by decide +kernel
theorem dX4_earliest_12 : decode cX4_earliest 12 = .ok (.ireturn, 1) := by decide +kernel
theorem dX4_earliest_13 : decode cX4_earliest 13 = .ok (.aload_n 0, 1) := by decide +kernel
theorem dX4_earliest_14 : decode cX4_earliest 14 = .ok (.getfield 26, 3) := by decide +kernel
theorem dX4_earliest_17 : decode cX4_earliest 17 = .ok (.aload_n 0, 1) := by decide +kernel
theorem dX4_earliest_18 : decode cX4_earliest 18 = .ok (.getfield 10, 3) := by decide +kernel
theorem dX4_earliest_21 : decode cX4_earliest 21 = .ok (.iload_n 1, 1) := by decide +kernel
theorem dX4_earliest_22 : decode cX4_earliest 22 = .ok (.iconst (-1), 1) := by decide +kernel
theorem dX4_earliest_23 : decode cX4_earliest 23 = .ok (.if_icmp .ne 13, 3) := by decide +kernel
theorem dX4_earliest_26 : decode cX4_earliest 26 = .ok (.aload_n 0, 1) := by decide +kernel
theorem dX4_earliest_27 : decode cX4_earliest 27 = .ok (.getfield 10, 3) := by decide +kernel
theorem dX4_earliest_30 : decode cX4_earliest 30 = .ok (.invokevirtual 125, 3) := by decide +kernel
theorem dX4_earliest_33 : decode cX4_earliest 33 = .ok (.goto 4, 3) := by decide +kernel
theorem dX4_earliest_36 : decode cX4_earliest 36 = .ok (.iload_n 1, 1) := by decide +kernel
theorem dX4_earliest_37 : decode cX4_earliest 37 = .ok (.invokevirtual 129, 3) := by decide +kernel
theorem dX4_earliest_40 : decode cX4_earliest 40 = .ok (.ireturn, 1) := by decide +kernel
set_option maxHeartbeats 4000000 in
set_option maxRecDepth 100000 in
theorem c_X4_earliest (l : Launch) (D : va_G) (cI cC cO : ClassId) (o : Nat → Nat) (a : Nat → Nat) (g : Nat → Nat) (ga : Nat → Nat → Nat) (f : Nat → Nat) (n : Nat → Nat) (t : Nat → Nat) (r : Nat → Nat) (L : Mm) (K : Mm) (P : Nat → Nat) (Hs : Nat → Mm) (S : Mm) (N : Mm) (T : Mm) (R : Mm) (x1 : Int32) (res : Int32 × Mm × Mm) (sz : Nat) (h : F_X4_earliest L K P Hs S N T R x1 = some res) : Met l yX4_earliest (Cond.code yX4_earliest cX4_earliest 2 (Option.some Jvm.ClassFile.FieldType.int) :: lw_g) ({ frames := 6, cells := 0, slots := 0, locals := 141 } : Room) (va_Pc [.ref (o 0), .int x1] (pS D cI cC cO sz (wX4 o a g ga f n t r cI cC cO L K P Hs S N T R))) (QI D cI cC cO (va_A (wX4 o a g ga f n t r cI cC cO L K P Hs S N T R) sz) (wX4 o a g ga f n t r cI cC cO L K P Hs res.2.1 res.2.2 T R) res.1) 0 0 (va_A (wX4 o a g ga f n t r cI cC cO L K P Hs S N T R) sz) := by
  refine Met.ofW (cc := cX4_earliest) (maxL := 2) (ret := (Option.some Jvm.ClassFile.FieldType.int)) (by decide) rfl ?_
  intro p e s m args below meth c s₁ B hml hv
  obtain ⟨rfl, rfl, hP, hK, hD0, hN⟩ := hv
  have hx := B.exec
  have hb := B.bytes
  have hr := B.returns
  have ht : ∀ w ∈ lw_g, w.before ([.ref (o 0), .int x1] : List Value).toArray s = true := fun w hw => atoms_spec (ws := Cond.code yX4_earliest cX4_earliest 2 (Option.some Jvm.ClassFile.FieldType.int) :: lw_g) B.pre w (List.mem_cons_of_mem _ hw)
  have hown : s.vm.findClass RX4 = some m.cls := findClass_of_methodNamed B.named
  have hlocks := B.notSynchronized
  have hD := hD0.self (sz := s.heap.size)
  generalize hAe : va_A (wX4 o a g ga f n t r cI cC cO L K P Hs S N T R) s.heap.size = A at hD ⊢
  have hA : ∀ q : Nat, s.heap.size ≤ q → A q := fun q hq => by rw [← hAe]; exact Or.inr hq
  have hS : va_S A s.heap s.heap [] := va_S.rf
  have hl := lv_entry ([.ref (o 0), .int x1]) (n := 2) (Nat.le_of_ble_eq_true rfl)
  rw [lg_entry_eq]
  generalize (lg_sl ([.ref (o 0), .int x1]) ++ List.replicate (2 - (lg_sl ([.ref (o 0), .int x1])).length) Slot.unset).toArray = ls at hl ⊢
  have hl : lv_has ls 2 [(0, .ref (o 0)), (1, .int x1)] := hl
  have w37 : ∀ (S : Mm) (N : Mm) (s0 : Int32) (H : Heap) (locs : List Loc) (ls : Array Slot), F_X4_earliest_37 L K P Hs S N T R s0 = some res → va_P D classes (wX4 o a g ga f n t r cI cC cO L K P Hs S N T R) H → va_D A (wX4 o a g ga f n t r cI cC cO L K P Hs S N T R) → va_S A s.heap H locs → lv_has ls 2 [] → W p l e ({ frames := 6, cells := 0, slots := 0, locals := 141 } : Room) s m ([.ref (o 0), .int x1] : List Value).toArray below meth c H locs 0 0 (MQ below (QI D cI cC cO A (wX4 o a g ga f n t r cI cC cO L K P Hs res.2.1 res.2.2 T R) res.1) ([.ref (o 0), .int x1] : List Value).toArray s 0 0 A) (F0 m 37 ls [.int s0, .ref (a 0), .ref (f 0)]) := by
    intro S N s0 H locs ls h hP hD hS hl
    unfold F_X4_earliest_37 at h
    obtain ⟨u1, S2, N3, e4, h⟩ := b3_ok h
    refine cp_Vi (ws' := (wX4 o a g ga f n t r cI cC cO L K P Hs S2 N3 T R)) ⟨hx, hb, hml, hown, ht⟩ (c_X3_leastTick l D cI cC cO f n a S N L s0 _ _ e4) (cwv 2 ht wd_365 wd_4 wd_362 wd_363 wd_364 (by decide +kernel) rfl rfl ⟨Nat.le_of_ble_eq_true rfl, Nat.le_of_ble_eq_true rfl⟩) 3 0 rfl rfl rfl hK hP hD hS hA hN (pm1_fa _ _ _ _ _ _) (pm2_fa _ _ _ _ _ _) rfl hl.1 rfl (Nat.le_of_ble_eq_true rfl) dX4_earliest_37 ⟨Nat.le_of_ble_eq_true rfl, Nat.le_of_ble_eq_true rfl⟩ (fun H locs hP hD hS => ?_)
    cases h
    exact rt_i hx hb hr hlocks hS hP hK hD dX4_earliest_40
  unfold F_X4_earliest at h
  refine lv_iload_n hx hb dX4_earliest_0 rfl (lv_at hl 1 rfl) ?_
  refine lv_iconst (v := (-1 : Int32)) hx hb dX4_earliest_1 (by decide) ?_
  refine lv_bipush (v := (120 : Int32)) hx hb dX4_earliest_2 (by decide) ?_
  obtain ⟨u1, e2, h⟩ := b1_ok h
  refine cp_Si (ws' := (wX4 o a g ga f n t r cI cC cO L K P Hs S N T R)) ⟨hx, hb, hml, hown, ht⟩ (c_X4_within l D cI cC cO x1 (-1 : Int32) (120 : Int32) _ _ e2) (cwst 3 ht wd_161 wd_1 wd_239 wd_160 (by decide +kernel) rfl rfl ⟨Nat.le_of_ble_eq_true rfl, Nat.le_of_ble_eq_true rfl⟩) hK hP hD hS hA hN (pm1_0 _) (pm2_0 _) rfl hl.1 rfl (Nat.le_of_ble_eq_true rfl) dX4_earliest_4 ⟨Nat.le_of_ble_eq_true rfl, Nat.le_of_ble_eq_true rfl⟩ (fun H locs hP hD hS => ?_)
  refine lv_if_ne (tgt := 13) hx hb dX4_earliest_7 (by decide) (fun c3 => ?_) (fun c3 => ?_)
  · replace h := fn c3 h
    refine lv_aload_n hx hb dX4_earliest_13 rfl (lv_at hl 0 rfl) ?_
    refine va_get (D := D) (ci := 4) (v := .ref (f 0)) (C := RX4) (T := TX4) (N := 4) hx hb ht i_X4 hown hK hP 0 rfl rfl 2 (by decide) (ht _ wd_140) (fun _ h9 => h9) rfl dX4_earliest_14 ?_
    refine lv_aload_n hx hb dX4_earliest_17 rfl (lv_at hl 0 rfl) ?_
    refine va_get (D := D) (ci := 4) (v := .ref (a 0)) (C := RX4) (T := TX4) (N := 4) hx hb ht i_X4 hown hK hP 0 rfl rfl 0 (by decide) (ht _ wd_138) (fun _ h9 => h9) rfl dX4_earliest_18 ?_
    refine lv_iload_n hx hb dX4_earliest_21 rfl (lv_at hl 1 rfl) ?_
    refine lv_iconst (v := (-1 : Int32)) hx hb dX4_earliest_22 (by decide) ?_
    refine lv_icmp_ne (tgt := 36) hx hb dX4_earliest_23 (by decide) (fun c4 => ?_) (fun c4 => ?_)
    · replace h := fn c4 h
      refine lv_iload_n hx hb dX4_earliest_36 rfl (lv_at hl 1 rfl) ?_
      exact w37 S N x1 _ _ ls h hP hD hS (lv_sub hl [] rfl)
    · replace h := fp c4 h
      refine lv_aload_n hx hb dX4_earliest_26 rfl (lv_at hl 0 rfl) ?_
      refine va_get (D := D) (ci := 4) (v := .ref (a 0)) (C := RX4) (T := TX4) (N := 4) hx hb ht i_X4 hown hK hP 0 rfl rfl 0 (by decide) (ht _ wd_138) (fun _ h9 => h9) rfl dX4_earliest_27 ?_
      obtain ⟨u5, e6, h⟩ := b1_ok h
      refine cp_Vi (ws' := (wX4 o a g ga f n t r cI cC cO L K P Hs S N T R)) ⟨hx, hb, hml, hown, ht⟩ (c_X1_allUnits l D cI cC cO a L _ _ e6) (cwv 0 ht wd_361 wd_2 wd_358 wd_359 wd_360 (by decide +kernel) rfl rfl ⟨Nat.le_of_ble_eq_true rfl, Nat.le_of_ble_eq_true rfl⟩) 1 0 rfl rfl rfl hK hP hD hS hA hN (pm1_a _ _ _ _ _ _) (pm2_a _ _ _ _ _ _) rfl hl.1 rfl (Nat.le_of_ble_eq_true rfl) dX4_earliest_30 ⟨Nat.le_of_ble_eq_true rfl, Nat.le_of_ble_eq_true rfl⟩ (fun H locs hP hD hS => ?_)
      refine lv_goto (tgt := 37) hx hb dX4_earliest_33 (by decide) ?_
      exact w37 S N u5 _ _ ls h hP hD hS (lv_sub hl [] rfl)
  · replace h := fp c3 h
    refine lv_ldc hx hb hown (ht _ wd_162) dX4_earliest_10 ?_
    cases h
    exact rt_i hx hb hr hlocks hS hP hK hD dX4_earliest_12
theorem dX4_repeated_0 : decode cX4_repeated 0 = .ok (.aload_n 0, 1) := by decide +kernel
theorem dX4_repeated_1 : decode cX4_repeated 1 = .ok (.getfield 10, 3) := by decide +kernel
theorem dX4_repeated_4 : decode cX4_repeated 4 = .ok (.iload_n 1, 1) := by decide +kernel
theorem dX4_repeated_5 : decode cX4_repeated 5 = .ok (.invokevirtual 106, 3) := by decide +kernel
theorem dX4_repeated_8 : decode cX4_repeated 8 = .ok (.ifCond .eq 14, 3) := by decide +kernel
theorem dX4_repeated_11 : decode cX4_repeated 11 = .ok (.iload_n 1, 1) := by decide +kernel
theorem dX4_repeated_12 : decode cX4_repeated 12 = .ok (.ifCond .eq 10, 3) := by decide +kernel
theorem dX4_repeated_15 : decode cX4_repeated 15 = .ok (.iload_n 2, 1) := by decide +kernel
theorem dX4_repeated_16 : decode cX4_repeated 16 = .ok (.invokestatic 119, 3) := by decide +kernel
theorem dX4_repeated_19 : decode cX4_repeated 19 = .ok (.ifCond .ne 6, 3) := by decide +kernel
theorem dX4_repeated_22 : decode cX4_repeated 22 = .ok (.ldc 41, 2) := by decide +kernel
theorem dX4_repeated_24 : decode cX4_repeated 24 = .ok (.ireturn, 1) := by decide +kernel
theorem dX4_repeated_25 : decode cX4_repeated 25 = .ok (.aload_n 0, 1) := by decide +kernel
theorem dX4_repeated_26 : decode cX4_repeated 26 = .ok (.getfield 26, 3) := by decide +kernel
theorem dX4_repeated_29 : decode cX4_repeated 29 = .ok (.aload_n 0, 1) := by decide +kernel
theorem dX4_repeated_30 : decode cX4_repeated 30 = .ok (.getfield 10, 3) := by decide +kernel
theorem dX4_repeated_33 : decode cX4_repeated 33 = .ok (.iload_n 1, 1) := by decide +kernel
theorem dX4_repeated_34 : decode cX4_repeated 34 = .ok (.iload_n 2, 1) := by decide +kernel
theorem dX4_repeated_35 : decode cX4_repeated 35 = .ok (.invokevirtual 132, 3) := by decide +kernel
theorem dX4_repeated_38 : decode cX4_repeated 38 = .ok (.ireturn, 1) := by decide +kernel
set_option maxHeartbeats 4000000 in
set_option maxRecDepth 100000 in
theorem c_X4_repeated (l : Launch) (D : va_G) (cI cC cO : ClassId) (o : Nat → Nat) (a : Nat → Nat) (g : Nat → Nat) (ga : Nat → Nat → Nat) (f : Nat → Nat) (n : Nat → Nat) (t : Nat → Nat) (r : Nat → Nat) (L : Mm) (K : Mm) (P : Nat → Nat) (Hs : Nat → Mm) (S : Mm) (N : Mm) (T : Mm) (R : Mm) (x1 x2 : Int32) (res : Int32 × Mm × Mm) (sz : Nat) (h : F_X4_repeated L K P Hs S N T R x1 x2 = some res) : Met l yX4_repeated (Cond.code yX4_repeated cX4_repeated 3 (Option.some Jvm.ClassFile.FieldType.int) :: lw_g) ({ frames := 6, cells := 0, slots := 0, locals := 141 } : Room) (va_Pc [.ref (o 0), .int x1, .int x2] (pS D cI cC cO sz (wX4 o a g ga f n t r cI cC cO L K P Hs S N T R))) (QI D cI cC cO (va_A (wX4 o a g ga f n t r cI cC cO L K P Hs S N T R) sz) (wX4 o a g ga f n t r cI cC cO L K P Hs res.2.1 res.2.2 T R) res.1) 0 0 (va_A (wX4 o a g ga f n t r cI cC cO L K P Hs S N T R) sz) := by
  refine Met.ofW (cc := cX4_repeated) (maxL := 3) (ret := (Option.some Jvm.ClassFile.FieldType.int)) (by decide) rfl ?_
  intro p e s m args below meth c s₁ B hml hv
  obtain ⟨rfl, rfl, hP, hK, hD0, hN⟩ := hv
  have hx := B.exec
  have hb := B.bytes
  have hr := B.returns
  have ht : ∀ w ∈ lw_g, w.before ([.ref (o 0), .int x1, .int x2] : List Value).toArray s = true := fun w hw => atoms_spec (ws := Cond.code yX4_repeated cX4_repeated 3 (Option.some Jvm.ClassFile.FieldType.int) :: lw_g) B.pre w (List.mem_cons_of_mem _ hw)
  have hown : s.vm.findClass RX4 = some m.cls := findClass_of_methodNamed B.named
  have hlocks := B.notSynchronized
  have hD := hD0.self (sz := s.heap.size)
  generalize hAe : va_A (wX4 o a g ga f n t r cI cC cO L K P Hs S N T R) s.heap.size = A at hD ⊢
  have hA : ∀ q : Nat, s.heap.size ≤ q → A q := fun q hq => by rw [← hAe]; exact Or.inr hq
  have hS : va_S A s.heap s.heap [] := va_S.rf
  have hl := lv_entry ([.ref (o 0), .int x1, .int x2]) (n := 3) (Nat.le_of_ble_eq_true rfl)
  rw [lg_entry_eq]
  generalize (lg_sl ([.ref (o 0), .int x1, .int x2]) ++ List.replicate (3 - (lg_sl ([.ref (o 0), .int x1, .int x2])).length) Slot.unset).toArray = ls at hl ⊢
  have hl : lv_has ls 3 [(0, .ref (o 0)), (1, .int x1), (2, .int x2)] := hl
  unfold F_X4_repeated at h
  refine lv_aload_n hx hb dX4_repeated_0 rfl (lv_at hl 0 rfl) ?_
  refine va_get (D := D) (ci := 4) (v := .ref (a 0)) (C := RX4) (T := TX4) (N := 4) hx hb ht i_X4 hown hK hP 0 rfl rfl 0 (by decide) (ht _ wd_138) (fun _ h9 => h9) rfl dX4_repeated_1 ?_
  refine lv_iload_n hx hb dX4_repeated_4 rfl (lv_at hl 1 rfl) ?_
  obtain ⟨u1, e2, h⟩ := b1_ok h
  refine cp_Vi (ws' := (wX4 o a g ga f n t r cI cC cO L K P Hs S N T R)) ⟨hx, hb, hml, hown, ht⟩ (c_X1_isPlace l D cI cC cO a L x1 _ _ e2) (cwv 1 ht wd_198 wd_2 wd_265 wd_196 wd_197 (by decide +kernel) rfl rfl ⟨Nat.le_of_ble_eq_true rfl, Nat.le_of_ble_eq_true rfl⟩) 1 0 rfl rfl rfl hK hP hD hS hA hN (pm1_a _ _ _ _ _ _) (pm2_a _ _ _ _ _ _) rfl hl.1 rfl (Nat.le_of_ble_eq_true rfl) dX4_repeated_5 ⟨Nat.le_of_ble_eq_true rfl, Nat.le_of_ble_eq_true rfl⟩ (fun H locs hP hD hS => ?_)
  refine lv_if_eq (tgt := 22) hx hb dX4_repeated_8 (by decide) (fun c3 => ?_) (fun c3 => ?_)
  · replace h := fp c3 h
    refine lv_ldc hx hb hown (ht _ wd_162) dX4_repeated_22 ?_
    cases h
    exact rt_i hx hb hr hlocks hS hP hK hD dX4_repeated_24
  · replace h := fn c3 h
    refine lv_iload_n hx hb dX4_repeated_11 rfl (lv_at hl 1 rfl) ?_
    refine lv_if_eq (tgt := 22) hx hb dX4_repeated_12 (by decide) (fun c4 => ?_) (fun c4 => ?_)
    · replace h := fp c4 h
      refine lv_ldc hx hb hown (ht _ wd_162) dX4_repeated_22 ?_
      cases h
      exact rt_i hx hb hr hlocks hS hP hK hD dX4_repeated_24
    · replace h := fn c4 h
      refine lv_iload_n hx hb dX4_repeated_15 rfl (lv_at hl 2 rfl) ?_
      obtain ⟨u5, e6, h⟩ := b1_ok h
      refine cp_Si (ws' := (wX4 o a g ga f n t r cI cC cO L K P Hs S N T R)) ⟨hx, hb, hml, hown, ht⟩ (c_X4_isTick l D cI cC cO x2 _ _ e6) (cwst 1 ht wd_238 wd_1 wd_345 wd_237 (by decide +kernel) rfl rfl ⟨Nat.le_of_ble_eq_true rfl, Nat.le_of_ble_eq_true rfl⟩) hK hP hD hS hA hN (pm1_0 _) (pm2_0 _) rfl hl.1 rfl (Nat.le_of_ble_eq_true rfl) dX4_repeated_16 ⟨Nat.le_of_ble_eq_true rfl, Nat.le_of_ble_eq_true rfl⟩ (fun H locs hP hD hS => ?_)
      refine lv_if_ne (tgt := 25) hx hb dX4_repeated_19 (by decide) (fun c7 => ?_) (fun c7 => ?_)
      · replace h := fn c7 h
        refine lv_aload_n hx hb dX4_repeated_25 rfl (lv_at hl 0 rfl) ?_
        refine va_get (D := D) (ci := 4) (v := .ref (f 0)) (C := RX4) (T := TX4) (N := 4) hx hb ht i_X4 hown hK hP 0 rfl rfl 2 (by decide) (ht _ wd_140) (fun _ h9 => h9) rfl dX4_repeated_26 ?_
        refine lv_aload_n hx hb dX4_repeated_29 rfl (lv_at hl 0 rfl) ?_
        refine va_get (D := D) (ci := 4) (v := .ref (a 0)) (C := RX4) (T := TX4) (N := 4) hx hb ht i_X4 hown hK hP 0 rfl rfl 0 (by decide) (ht _ wd_138) (fun _ h9 => h9) rfl dX4_repeated_30 ?_
        refine lv_iload_n hx hb dX4_repeated_33 rfl (lv_at hl 1 rfl) ?_
        refine lv_iload_n hx hb dX4_repeated_34 rfl (lv_at hl 2 rfl) ?_
        obtain ⟨u8, S9, N10, e11, h⟩ := b3_ok h
        refine cp_Vi (ws' := (wX4 o a g ga f n t r cI cC cO L K P Hs S9 N10 T R)) ⟨hx, hb, hml, hown, ht⟩ (c_X3_mostRepeated l D cI cC cO f n a S N L x1 x2 _ _ e11) (cwv 3 ht wd_373 wd_4 wd_370 wd_371 wd_372 (by decide +kernel) rfl rfl ⟨Nat.le_of_ble_eq_true rfl, Nat.le_of_ble_eq_true rfl⟩) 3 0 rfl rfl rfl hK hP hD hS hA hN (pm1_fa _ _ _ _ _ _) (pm2_fa _ _ _ _ _ _) rfl hl.1 rfl (Nat.le_of_ble_eq_true rfl) dX4_repeated_35 ⟨Nat.le_of_ble_eq_true rfl, Nat.le_of_ble_eq_true rfl⟩ (fun H locs hP hD hS => ?_)
        cases h
        exact rt_i hx hb hr hlocks hS hP hK hD dX4_repeated_38
      · replace h := fp c7 h
        refine lv_ldc hx hb hown (ht _ wd_162) dX4_repeated_22 ?_
        cases h
        exact rt_i hx hb hr hlocks hS hP hK hD dX4_repeated_24
theorem dX4_narrow_0 : decode cX4_narrow 0 = .ok (.iload_n 1, 1) := by decide +kernel
theorem dX4_narrow_1 : decode cX4_narrow 1 = .ok (.invokestatic 119, 3) := by decide +kernel
theorem dX4_narrow_4 : decode cX4_narrow 4 = .ok (.ifCond .ne 6, 3) := by decide +kernel
theorem dX4_narrow_7 : decode cX4_narrow 7 = .ok (.ldc 41, 2) := by decide +kernel
theorem dX4_narrow_9 : decode cX4_narrow 9 = .ok (.ireturn, 1) := by decide +kernel
theorem dX4_narrow_10 : decode cX4_narrow 10 = .ok (.aload_n 0, 1) := by decide +kernel
theorem dX4_narrow_11 : decode cX4_narrow 11 = .ok (.getfield 26, 3) := by decide +kernel
theorem dX4_narrow_14 : decode cX4_narrow 14 = .ok (.aload_n 0, 1) := by decide +kernel
theorem dX4_narrow_15 : decode cX4_narrow 15 = .ok (.getfield 10, 3) := by decide +kernel
theorem dX4_narrow_18 : decode cX4_narrow 18 = .ok (.iload_n 1, 1) := by decide +kernel
theorem dX4_narrow_19 : decode cX4_narrow 19 = .ok (.invokevirtual 122, 3) := by decide +kernel
theorem dX4_narrow_22 : decode cX4_narrow 22 = .ok (.pop, 1) := by decide +kernel
theorem dX4_narrow_23 : decode cX4_narrow 23 = .ok (.aload_n 0, 1) := by decide +kernel
theorem dX4_narrow_24 : decode cX4_narrow 24 = .ok (.getfield 26, 3) := by decide +kernel
theorem dX4_narrow_27 : decode cX4_narrow 27 = .ok (.iload_n 1, 1) := by decide +kernel
theorem dX4_narrow_28 : decode cX4_narrow 28 = .ok (.invokevirtual 136, 3) := by decide +kernel
theorem dX4_narrow_31 : decode cX4_narrow 31 = .ok (.ireturn, 1) := by decide +kernel
set_option maxHeartbeats 4000000 in
set_option maxRecDepth 100000 in
theorem c_X4_narrow (l : Launch) (D : va_G) (cI cC cO : ClassId) (o : Nat → Nat) (a : Nat → Nat) (g : Nat → Nat) (ga : Nat → Nat → Nat) (f : Nat → Nat) (n : Nat → Nat) (t : Nat → Nat) (r : Nat → Nat) (L : Mm) (K : Mm) (P : Nat → Nat) (Hs : Nat → Mm) (S : Mm) (N : Mm) (T : Mm) (R : Mm) (x1 : Int32) (res : Int32 × Mm × Mm) (sz : Nat) (h : F_X4_narrow L K P Hs S N T R x1 = some res) : Met l yX4_narrow (Cond.code yX4_narrow cX4_narrow 2 (Option.some Jvm.ClassFile.FieldType.int) :: lw_g) ({ frames := 6, cells := 0, slots := 0, locals := 139 } : Room) (va_Pc [.ref (o 0), .int x1] (pS D cI cC cO sz (wX4 o a g ga f n t r cI cC cO L K P Hs S N T R))) (QI D cI cC cO (va_A (wX4 o a g ga f n t r cI cC cO L K P Hs S N T R) sz) (wX4 o a g ga f n t r cI cC cO L K P Hs res.2.1 res.2.2 T R) res.1) 0 0 (va_A (wX4 o a g ga f n t r cI cC cO L K P Hs S N T R) sz) := by
  refine Met.ofW (cc := cX4_narrow) (maxL := 2) (ret := (Option.some Jvm.ClassFile.FieldType.int)) (by decide) rfl ?_
  intro p e s m args below meth c s₁ B hml hv
  obtain ⟨rfl, rfl, hP, hK, hD0, hN⟩ := hv
  have hx := B.exec
  have hb := B.bytes
  have hr := B.returns
  have ht : ∀ w ∈ lw_g, w.before ([.ref (o 0), .int x1] : List Value).toArray s = true := fun w hw => atoms_spec (ws := Cond.code yX4_narrow cX4_narrow 2 (Option.some Jvm.ClassFile.FieldType.int) :: lw_g) B.pre w (List.mem_cons_of_mem _ hw)
  have hown : s.vm.findClass RX4 = some m.cls := findClass_of_methodNamed B.named
  have hlocks := B.notSynchronized
  have hD := hD0.self (sz := s.heap.size)
  generalize hAe : va_A (wX4 o a g ga f n t r cI cC cO L K P Hs S N T R) s.heap.size = A at hD ⊢
  have hA : ∀ q : Nat, s.heap.size ≤ q → A q := fun q hq => by rw [← hAe]; exact Or.inr hq
  have hS : va_S A s.heap s.heap [] := va_S.rf
  have hl := lv_entry ([.ref (o 0), .int x1]) (n := 2) (Nat.le_of_ble_eq_true rfl)
  rw [lg_entry_eq]
  generalize (lg_sl ([.ref (o 0), .int x1]) ++ List.replicate (2 - (lg_sl ([.ref (o 0), .int x1])).length) Slot.unset).toArray = ls at hl ⊢
  have hl : lv_has ls 2 [(0, .ref (o 0)), (1, .int x1)] := hl
  unfold F_X4_narrow at h
  refine lv_iload_n hx hb dX4_narrow_0 rfl (lv_at hl 1 rfl) ?_
  obtain ⟨u1, e2, h⟩ := b1_ok h
  refine cp_Si (ws' := (wX4 o a g ga f n t r cI cC cO L K P Hs S N T R)) ⟨hx, hb, hml, hown, ht⟩ (c_X4_isTick l D cI cC cO x1 _ _ e2) (cwst 1 ht wd_238 wd_1 wd_345 wd_237 (by decide +kernel) rfl rfl ⟨Nat.le_of_ble_eq_true rfl, Nat.le_of_ble_eq_true rfl⟩) hK hP hD hS hA hN (pm1_0 _) (pm2_0 _) rfl hl.1 rfl (Nat.le_of_ble_eq_true rfl) dX4_narrow_1 ⟨Nat.le_of_ble_eq_true rfl, Nat.le_of_ble_eq_true rfl⟩ (fun H locs hP hD hS => ?_)
  refine lv_if_ne (tgt := 10) hx hb dX4_narrow_4 (by decide) (fun c3 => ?_) (fun c3 => ?_)
  · replace h := fn c3 h
    refine lv_aload_n hx hb dX4_narrow_10 rfl (lv_at hl 0 rfl) ?_
    refine va_get (D := D) (ci := 4) (v := .ref (f 0)) (C := RX4) (T := TX4) (N := 4) hx hb ht i_X4 hown hK hP 0 rfl rfl 2 (by decide) (ht _ wd_140) (fun _ h9 => h9) rfl dX4_narrow_11 ?_
    refine lv_aload_n hx hb dX4_narrow_14 rfl (lv_at hl 0 rfl) ?_
    refine va_get (D := D) (ci := 4) (v := .ref (a 0)) (C := RX4) (T := TX4) (N := 4) hx hb ht i_X4 hown hK hP 0 rfl rfl 0 (by decide) (ht _ wd_138) (fun _ h9 => h9) rfl dX4_narrow_15 ?_
    refine lv_iload_n hx hb dX4_narrow_18 rfl (lv_at hl 1 rfl) ?_
    obtain ⟨u4, S5, N6, e7, h⟩ := b3_ok h
    refine cp_Vi (ws' := (wX4 o a g ga f n t r cI cC cO L K P Hs S5 N6 T R)) ⟨hx, hb, hml, hown, ht⟩ (c_X3_most l D cI cC cO f n a S N L x1 _ _ e7) (cwv 2 ht wd_349 wd_4 wd_346 wd_347 wd_348 (by decide +kernel) rfl rfl ⟨Nat.le_of_ble_eq_true rfl, Nat.le_of_ble_eq_true rfl⟩) 3 0 rfl rfl rfl hK hP hD hS hA hN (pm1_fa _ _ _ _ _ _) (pm2_fa _ _ _ _ _ _) rfl hl.1 rfl (Nat.le_of_ble_eq_true rfl) dX4_narrow_19 ⟨Nat.le_of_ble_eq_true rfl, Nat.le_of_ble_eq_true rfl⟩ (fun H locs hP hD hS => ?_)
    refine lv_pop hx hb dX4_narrow_22 rfl ?_
    refine lv_aload_n hx hb dX4_narrow_23 rfl (lv_at hl 0 rfl) ?_
    refine va_get (D := D) (ci := 4) (v := .ref (f 0)) (C := RX4) (T := TX4) (N := 4) hx hb ht i_X4 hown hK hP 0 rfl rfl 2 (by decide) (ht _ wd_140) (fun _ h9 => h9) rfl dX4_narrow_24 ?_
    refine lv_iload_n hx hb dX4_narrow_27 rfl (lv_at hl 1 rfl) ?_
    obtain ⟨u8, e9, h⟩ := b1_ok h
    refine cp_Vi (ws' := (wX4 o a g ga f n t r cI cC cO L K P Hs S5 N6 T R)) ⟨hx, hb, hml, hown, ht⟩ (c_X3_narrowPipes l D cI cC cO f n S5 N6 x1 _ _ e9) (cwv 1 ht wd_382 wd_4 wd_379 wd_380 wd_381 (by decide +kernel) rfl rfl ⟨Nat.le_of_ble_eq_true rfl, Nat.le_of_ble_eq_true rfl⟩) 3 0 rfl rfl rfl hK hP hD hS hA hN (pm1_f _ _ _ _ _ _) (pm2_f _ _ _ _ _ _) rfl hl.1 rfl (Nat.le_of_ble_eq_true rfl) dX4_narrow_28 ⟨Nat.le_of_ble_eq_true rfl, Nat.le_of_ble_eq_true rfl⟩ (fun H locs hP hD hS => ?_)
    cases h
    exact rt_i hx hb hr hlocks hS hP hK hD dX4_narrow_31
  · replace h := fp c3 h
    refine lv_ldc hx hb hown (ht _ wd_162) dX4_narrow_7 ?_
    cases h
    exact rt_i hx hb hr hlocks hS hP hK hD dX4_narrow_9
