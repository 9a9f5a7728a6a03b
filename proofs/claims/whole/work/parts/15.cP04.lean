theorem dX4_helpful_0 : decode cX4_helpful 0 = .ok (.iload_n 1, 1) := by decide +kernel
theorem dX4_helpful_1 : decode cX4_helpful 1 = .ok (.invokestatic 119, 3) := by decide +kernel
theorem dX4_helpful_4 : decode cX4_helpful 4 = .ok (.ifCond .eq 12, 3) := by decide +kernel
theorem dX4_helpful_7 : decode cX4_helpful 7 = .ok (.iload_n 2, 1) := by decide +kernel
theorem dX4_helpful_8 : decode cX4_helpful 8 = .ok (.iconst 0, 1) := by decide +kernel
theorem dX4_helpful_9 : decode cX4_helpful 9 = .ok (.iconst 1, 1) := by decide +kernel
theorem dX4_helpful_10 : decode cX4_helpful 10 = .ok (.invokestatic 89, 3) := by decide +kernel
theorem dX4_helpful_13 : decode cX4_helpful 13 = .ok (.ifCond .ne 6, 3) := by decide +kernel
theorem dX4_helpful_16 : decode cX4_helpful 16 = .ok (.ldc 41, 2) := by decide +kernel
theorem dX4_helpful_18 : decode cX4_helpful 18 = .ok (.ireturn, 1) := by decide +kernel
theorem dX4_helpful_19 : decode cX4_helpful 19 = .ok (.aload_n 0, 1) := by decide +kernel
theorem dX4_helpful_20 : decode cX4_helpful 20 = .ok (.getfield 26, 3) := by decide +kernel
theorem dX4_helpful_23 : decode cX4_helpful 23 = .ok (.aload_n 0, 1) := by decide +kernel
theorem dX4_helpful_24 : decode cX4_helpful 24 = .ok (.getfield 10, 3) := by decide +kernel
theorem dX4_helpful_27 : decode cX4_helpful 27 = .ok (.iload_n 1, 1) := by decide +kernel
theorem dX4_helpful_28 : decode cX4_helpful 28 = .ok (.invokevirtual 122, 3) := by decide +kernel
theorem dX4_helpful_31 : decode cX4_helpful 31 = .ok (.istore_n 3, 1) := by decide +kernel
theorem dX4_helpful_32 : decode cX4_helpful 32 = .ok (.aload_n 0, 1) := by decide +kernel
theorem dX4_helpful_33 : decode cX4_helpful 33 = .ok (.getfield 26, 3) := by decide +kernel
theorem dX4_helpful_36 : decode cX4_helpful 36 = .ok (.iload_n 1, 1) := by decide +kernel
theorem dX4_helpful_37 : decode cX4_helpful 37 = .ok (.invokevirtual 136, 3) := by decide +kernel
theorem dX4_helpful_40 : decode cX4_helpful 40 = .ok (.istore 4, 2) := by decide +kernel
theorem dX4_helpful_42 : decode cX4_helpful 42 = .ok (.iconst 0, 1) := by decide +kernel
theorem dX4_helpful_43 : decode cX4_helpful 43 = .ok (.istore 5, 2) := by decide +kernel
theorem dX4_helpful_45 : decode cX4_helpful 45 = .ok (.iconst (-1), 1) := by decide +kernel
theorem dX4_helpful_46 : decode cX4_helpful 46 = .ok (.istore 6, 2) := by decide +kernel
theorem dX4_helpful_48 : decode cX4_helpful 48 = .ok (.iconst 0, 1) := by decide +kernel
theorem dX4_helpful_49 : decode cX4_helpful 49 = .ok (.istore 7, 2) := by decide +kernel
theorem dX4_helpful_51 : decode cX4_helpful 51 = .ok (.iload 7, 2) := by decide +kernel
theorem dX4_helpful_53 : decode cX4_helpful 53 = .ok (.aload_n 0, 1) := by decide +kernel
theorem dX4_helpful_54 : decode cX4_helpful 54 = .ok (.getfield 10, 3) := by decide +kernel
theorem dX4_helpful_57 : decode cX4_helpful 57 = .ok (.getfield 72, 3) := by decide +kernel
theorem dX4_helpful_60 : decode cX4_helpful 60 = .ok (.if_icmp .ge 56, 3) := by decide +kernel
theorem dX4_helpful_63 : decode cX4_helpful 63 = .ok (.iload 4, 2) := by decide +kernel
theorem dX4_helpful_65 : decode cX4_helpful 65 = .ok (.iload 7, 2) := by decide +kernel
theorem dX4_helpful_67 : decode cX4_helpful 67 = .ok (.invokestatic 148, 3) := by decide +kernel
theorem dX4_helpful_70 : decode cX4_helpful 70 = .ok (.ifCond .eq 22, 3) := by decide +kernel
theorem dX4_helpful_73 : decode cX4_helpful 73 = .ok (.aload_n 0, 1) := by decide +kernel
theorem dX4_helpful_74 : decode cX4_helpful 74 = .ok (.getfield 26, 3) := by decide +kernel
theorem dX4_helpful_77 : decode cX4_helpful 77 = .ok (.aload_n 0, 1) := by decide +kernel
theorem dX4_helpful_78 : decode cX4_helpful 78 = .ok (.getfield 10, 3) := by decide +kernel
theorem dX4_helpful_81 : decode cX4_helpful 81 = .ok (.iload 7, 2) := by decide +kernel
theorem dX4_helpful_83 : decode cX4_helpful 83 = .ok (.iload_n 1, 1) := by decide +kernel
theorem dX4_helpful_84 : decode cX4_helpful 84 = .ok (.invokevirtual 154, 3) := by decide +kernel
theorem dX4_helpful_87 : decode cX4_helpful 87 = .ok (.iload_n 3, 1) := by decide +kernel
theorem dX4_helpful_88 : decode cX4_helpful 88 = .ok (.isub, 1) := by decide +kernel
theorem dX4_helpful_89 : decode cX4_helpful 89 = .ok (.goto 4, 3) := by decide +kernel
theorem dX4_helpful_92 : decode cX4_helpful 92 = .ok (.iconst 0, 1) := by decide +kernel
theorem dX4_helpful_93 : decode cX4_helpful 93 = .ok (.istore 8, 2) := by decide +kernel
theorem dX4_helpful_95 : decode cX4_helpful 95 = .ok (.iload 8, 2) := by decide +kernel
theorem dX4_helpful_97 : decode cX4_helpful 97 = .ok (.iload 5, 2) := by decide +kernel
theorem dX4_helpful_99 : decode cX4_helpful 99 = .ok (.if_icmp .le 11, 3) := by decide +kernel
theorem dX4_helpful_102 : decode cX4_helpful 102 = .ok (.iload 8, 2) := by decide +kernel
theorem dX4_helpful_104 : decode cX4_helpful 104 = .ok (.istore 5, 2) := by decide +kernel
theorem dX4_helpful_106 : decode cX4_helpful 106 = .ok (.iload 7, 2) := by decide +kernel
theorem dX4_helpful_108 : decode cX4_helpful 108 = .ok (.istore 6, 2) := by decide +kernel
theorem dX4_helpful_110 : decode cX4_helpful 110 = .ok (.iinc 7 1, 3) := by decide +kernel
theorem dX4_helpful_113 : decode cX4_helpful 113 = .ok (.goto (-62), 3) := by decide +kernel
theorem dX4_helpful_116 : decode cX4_helpful 116 = .ok (.iload 6, 2) := by decide +kernel
theorem dX4_helpful_118 : decode cX4_helpful 118 = .ok (.iconst (-1), 1) := by decide +kernel
theorem dX4_helpful_119 : decode cX4_helpful 119 = .ok (.if_icmp .ne 6, 3) := by decide +kernel
theorem dX4_helpful_122 : decode cX4_helpful 122 = .ok (.ldc 144, 2) := by decide +kernel
theorem dX4_helpful_124 : decode cX4_helpful 124 = .ok (.ireturn, 1) := by decide +kernel
theorem dX4_helpful_125 : decode cX4_helpful 125 = .ok (.iload_n 2, 1) := by decide +kernel
theorem dX4_helpful_126 : decode cX4_helpful 126 = .ok (.ifCond .ne 8, 3) := by decide +kernel
theorem dX4_helpful_129 : decode cX4_helpful 129 = .ok (.iload 6, 2) := by decide +kernel
theorem dX4_helpful_131 : decode cX4_helpful 131 = .ok (.goto 5, 3) := by decide +kernel
theorem dX4_helpful_134 : decode cX4_helpful 134 = .ok (.iload 5, 2) := by decide +kernel
theorem dX4_helpful_136 : decode cX4_helpful 136 = .ok (.ireturn, 1) := by decide +kernel
set_option maxHeartbeats 4000000 in
set_option maxRecDepth 100000 in
theorem c_X4_helpful (l : Launch) (D : va_G) (cI cC cO : ClassId) (o : Nat → Nat) (a : Nat → Nat) (g : Nat → Nat) (ga : Nat → Nat → Nat) (f : Nat → Nat) (n : Nat → Nat) (t : Nat → Nat) (r : Nat → Nat) (L : Mm) (K : Mm) (P : Nat → Nat) (Hs : Nat → Mm) (S : Mm) (N : Mm) (T : Mm) (R : Mm) (x1 x2 : Int32) (res : Int32 × Mm × Mm) (sz : Nat) (h : F_X4_helpful L K P Hs S N T R x1 x2 = some res) : Met l yX4_helpful (Cond.code yX4_helpful cX4_helpful 9 (Option.some Jvm.ClassFile.FieldType.int) :: lw_g) ({ frames := 6, cells := 0, slots := 0, locals := 140 } : Room) (va_Pc [.ref (o 0), .int x1, .int x2] (pS D cI cC cO sz (wX4 o a g ga f n t r cI cC cO L K P Hs S N T R))) (QI D cI cC cO (va_A (wX4 o a g ga f n t r cI cC cO L K P Hs S N T R) sz) (wX4 o a g ga f n t r cI cC cO L K P Hs res.2.1 res.2.2 T R) res.1) 0 0 (va_A (wX4 o a g ga f n t r cI cC cO L K P Hs S N T R) sz) := by
  refine Met.ofW (cc := cX4_helpful) (maxL := 9) (ret := (Option.some Jvm.ClassFile.FieldType.int)) (by decide) rfl ?_
  intro p e s m args below meth c s₁ B hml hv
  obtain ⟨rfl, rfl, hP, hK, hD0, hN⟩ := hv
  have hx := B.exec
  have hb := B.bytes
  have hr := B.returns
  have ht : ∀ w ∈ lw_g, w.before ([.ref (o 0), .int x1, .int x2] : List Value).toArray s = true := fun w hw => atoms_spec (ws := Cond.code yX4_helpful cX4_helpful 9 (Option.some Jvm.ClassFile.FieldType.int) :: lw_g) B.pre w (List.mem_cons_of_mem _ hw)
  have hown : s.vm.findClass RX4 = some m.cls := findClass_of_methodNamed B.named
  have hlocks := B.notSynchronized
  have hD := hD0.self (sz := s.heap.size)
  generalize hAe : va_A (wX4 o a g ga f n t r cI cC cO L K P Hs S N T R) s.heap.size = A at hD ⊢
  have hA : ∀ q : Nat, s.heap.size ≤ q → A q := fun q hq => by rw [← hAe]; exact Or.inr hq
  have hS : va_S A s.heap s.heap [] := va_S.rf
  have hl := lv_entry ([.ref (o 0), .int x1, .int x2]) (n := 9) (Nat.le_of_ble_eq_true rfl)
  rw [lg_entry_eq]
  generalize (lg_sl ([.ref (o 0), .int x1, .int x2]) ++ List.replicate (9 - (lg_sl ([.ref (o 0), .int x1, .int x2])).length) Slot.unset).toArray = ls at hl ⊢
  have hl : lv_has ls 9 [(0, .ref (o 0)), (1, .int x1), (2, .int x2)] := hl
  have w51 : ∀ (n51 : Nat) (S : Mm) (N : Mm) (y1 y2 y3 y4 y5 y6 y7 : Int32) (H : Heap) (locs : List Loc) (ls : Array Slot), F_X4_helpful_51 n51 L K P Hs S N T R y1 y2 y3 y4 y5 y6 y7 = some res → va_P D classes (wX4 o a g ga f n t r cI cC cO L K P Hs S N T R) H → va_D A (wX4 o a g ga f n t r cI cC cO L K P Hs S N T R) → va_S A s.heap H locs → lv_has ls 9 [(0, .ref (o 0)), (1, .int y1), (2, .int y2), (3, .int y3), (4, .int y4), (5, .int y5), (6, .int y6), (7, .int y7)] → W p l e ({ frames := 6, cells := 0, slots := 0, locals := 140 } : Room) s m ([.ref (o 0), .int x1, .int x2] : List Value).toArray below meth c H locs 0 0 (MQ below (QI D cI cC cO A (wX4 o a g ga f n t r cI cC cO L K P Hs res.2.1 res.2.2 T R) res.1) ([.ref (o 0), .int x1, .int x2] : List Value).toArray s 0 0 A) (F0 m 51 ls []) := by
    intro n51
    induction n51 with
    | zero => intro S N y1 y2 y3 y4 y5 y6 y7 H locs ls h hP hD hS hl; exact absurd (show (none : Option (Int32 × Mm × Mm)) = some res from h) (by simp)
    | succ n51 ih51 =>
      have w93 : ∀ (S : Mm) (N : Mm) (y1 y2 y3 y4 y5 y6 y7 s0 : Int32) (H : Heap) (locs : List Loc) (ls : Array Slot), F_X4_helpful_93 (F_X4_helpful_51 n51) L K P Hs S N T R y1 y2 y3 y4 y5 y6 y7 s0 = some res → va_P D classes (wX4 o a g ga f n t r cI cC cO L K P Hs S N T R) H → va_D A (wX4 o a g ga f n t r cI cC cO L K P Hs S N T R) → va_S A s.heap H locs → lv_has ls 9 [(0, .ref (o 0)), (1, .int y1), (2, .int y2), (3, .int y3), (4, .int y4), (5, .int y5), (6, .int y6), (7, .int y7)] → W p l e ({ frames := 6, cells := 0, slots := 0, locals := 140 } : Room) s m ([.ref (o 0), .int x1, .int x2] : List Value).toArray below meth c H locs 0 0 (MQ below (QI D cI cC cO A (wX4 o a g ga f n t r cI cC cO L K P Hs res.2.1 res.2.2 T R) res.1) ([.ref (o 0), .int x1, .int x2] : List Value).toArray s 0 0 A) (F0 m 93 ls [.int s0]) := by
        intro S N y1 y2 y3 y4 y5 y6 y7 s0 H locs ls h hP hD hS hl
        unfold F_X4_helpful_93 at h
        refine lv_istore (lv' := [(8, .int s0), (0, .ref (o 0)), (1, .int y1), (2, .int y2), (3, .int y3), (4, .int y4), (5, .int y5), (6, .int y6), (7, .int y7)]) hx hb dX4_helpful_93 hl (by decide) rfl (fun ls hl => ?_)
        refine lv_iload hx hb dX4_helpful_95 (lv_at hl 0 rfl) ?_
        refine lv_iload hx hb dX4_helpful_97 (lv_at hl 6 rfl) ?_
        refine lv_icmp_le (tgt := 110) hx hb dX4_helpful_99 (by decide) (fun c1 => ?_) (fun c1 => ?_)
        · replace h := fp c1 h
          refine lv_iinc (v := (y7 + 1)) (lv' := [(7, .int (y7 + 1)), (8, .int s0), (0, .ref (o 0)), (1, .int y1), (2, .int y2), (3, .int y3), (4, .int y4), (5, .int y5), (6, .int y6)]) hx hb dX4_helpful_110 hl (k := 8) rfl rfl (by decide) rfl (fun ls hl => ?_)
          refine lv_goto (tgt := 51) hx hb dX4_helpful_113 (by decide) ?_
          exact ih51 S N y1 y2 y3 y4 y5 y6 (y7 + 1) _ _ ls h hP hD hS (lv_sub hl [2, 3, 4, 5, 6, 7, 8, 0] rfl)
        · replace h := fn c1 h
          refine lv_iload hx hb dX4_helpful_102 (lv_at hl 0 rfl) ?_
          refine lv_istore (lv' := [(5, .int s0), (8, .int s0), (0, .ref (o 0)), (1, .int y1), (2, .int y2), (3, .int y3), (4, .int y4), (6, .int y6), (7, .int y7)]) hx hb dX4_helpful_104 hl (by decide) rfl (fun ls hl => ?_)
          refine lv_iload hx hb dX4_helpful_106 (lv_at hl 8 rfl) ?_
          refine lv_istore (lv' := [(6, .int y7), (5, .int s0), (8, .int s0), (0, .ref (o 0)), (1, .int y1), (2, .int y2), (3, .int y3), (4, .int y4), (7, .int y7)]) hx hb dX4_helpful_108 hl (by decide) rfl (fun ls hl => ?_)
          refine lv_iinc (v := (y7 + 1)) (lv' := [(7, .int (y7 + 1)), (6, .int y7), (5, .int s0), (8, .int s0), (0, .ref (o 0)), (1, .int y1), (2, .int y2), (3, .int y3), (4, .int y4)]) hx hb dX4_helpful_110 hl (k := 8) rfl rfl (by decide) rfl (fun ls hl => ?_)
          refine lv_goto (tgt := 51) hx hb dX4_helpful_113 (by decide) ?_
          exact ih51 S N y1 y2 y3 y4 s0 y7 (y7 + 1) _ _ ls h hP hD hS (lv_sub hl [4, 5, 6, 7, 8, 2, 1, 0] rfl)
      intro S N y1 y2 y3 y4 y5 y6 y7 H locs ls h hP hD hS hl
      have h : F_X4_helpfulB_51 (F_X4_helpful_51 n51) L K P Hs S N T R y1 y2 y3 y4 y5 y6 y7 = some res := h
      unfold F_X4_helpfulB_51 at h
      refine lv_iload hx hb dX4_helpful_51 (lv_at hl 7 rfl) ?_
      refine lv_aload_n hx hb dX4_helpful_53 rfl (lv_at hl 0 rfl) ?_
      refine va_get (D := D) (ci := 4) (v := .ref (a 0)) (C := RX4) (T := TX4) (N := 4) hx hb ht i_X4 hown hK hP 0 rfl rfl 0 (by decide) (ht _ wd_138) (fun _ h9 => h9) rfl dX4_helpful_54 ?_
      refine va_getN (D := D) (ci := 1) (v := .int (L 3 1)) (C := RX1) (T := TX1) (N := 5) hx hb ht i_X1 hown hK hP 1 rfl rfl 4 (by decide) (va_Nw.use rfl (hN.1 _ _ _ _ _ _ wd_36)) (fun _ h9 => h9) rfl dX4_helpful_57 ?_
      refine lv_icmp_ge (tgt := 116) hx hb dX4_helpful_60 (by decide) (fun c1 => ?_) (fun c1 => ?_)
      · replace h := fp c1 h
        refine lv_iload hx hb dX4_helpful_116 (lv_at hl 6 rfl) ?_
        refine lv_iconst (v := (-1 : Int32)) hx hb dX4_helpful_118 (by decide) ?_
        refine lv_icmp_ne (tgt := 125) hx hb dX4_helpful_119 (by decide) (fun c2 => ?_) (fun c2 => ?_)
        · replace h := fn c2 h
          refine lv_iload_n hx hb dX4_helpful_125 rfl (lv_at hl 2 rfl) ?_
          refine lv_if_ne (tgt := 134) hx hb dX4_helpful_126 (by decide) (fun c3 => ?_) (fun c3 => ?_)
          · replace h := fn c3 h
            refine lv_iload hx hb dX4_helpful_134 (lv_at hl 5 rfl) ?_
            cases h
            exact rt_i hx hb hr hlocks hS hP hK hD dX4_helpful_136
          · replace h := fp c3 h
            refine lv_iload hx hb dX4_helpful_129 (lv_at hl 6 rfl) ?_
            refine lv_goto (tgt := 136) hx hb dX4_helpful_131 (by decide) ?_
            cases h
            exact rt_i hx hb hr hlocks hS hP hK hD dX4_helpful_136
        · replace h := fp c2 h
          refine lv_ldc hx hb hown (ht _ wd_400) dX4_helpful_122 ?_
          cases h
          exact rt_i hx hb hr hlocks hS hP hK hD dX4_helpful_124
      · replace h := fn c1 h
        refine lv_iload hx hb dX4_helpful_63 (lv_at hl 4 rfl) ?_
        refine lv_iload hx hb dX4_helpful_65 (lv_at hl 7 rfl) ?_
        obtain ⟨u4, e5, h⟩ := b1_ok h
        refine cp_Si (ws' := (wX4 o a g ga f n t r cI cC cO L K P Hs S N T R)) ⟨hx, hb, hml, hown, ht⟩ (c_X4_has l D cI cC cO y4 y7 _ _ e5) (cwst 2 ht wd_407 wd_1 wd_405 wd_406 (by decide +kernel) rfl rfl ⟨Nat.le_of_ble_eq_true rfl, Nat.le_of_ble_eq_true rfl⟩) hK hP hD hS hA hN (pm1_0 _) (pm2_0 _) rfl hl.1 rfl (Nat.le_of_ble_eq_true rfl) dX4_helpful_67 ⟨Nat.le_of_ble_eq_true rfl, Nat.le_of_ble_eq_true rfl⟩ (fun H locs hP hD hS => ?_)
        refine lv_if_eq (tgt := 92) hx hb dX4_helpful_70 (by decide) (fun c6 => ?_) (fun c6 => ?_)
        · replace h := fp c6 h
          refine lv_iconst (v := (0 : Int32)) hx hb dX4_helpful_92 (by decide) ?_
          exact w93 S N y1 y2 y3 y4 y5 y6 y7 (0 : Int32) _ _ ls h hP hD hS (lv_sub hl [0, 1, 2, 3, 4, 5, 6, 7] rfl)
        · replace h := fn c6 h
          refine lv_aload_n hx hb dX4_helpful_73 rfl (lv_at hl 0 rfl) ?_
          refine va_get (D := D) (ci := 4) (v := .ref (f 0)) (C := RX4) (T := TX4) (N := 4) hx hb ht i_X4 hown hK hP 0 rfl rfl 2 (by decide) (ht _ wd_140) (fun _ h9 => h9) rfl dX4_helpful_74 ?_
          refine lv_aload_n hx hb dX4_helpful_77 rfl (lv_at hl 0 rfl) ?_
          refine va_get (D := D) (ci := 4) (v := .ref (a 0)) (C := RX4) (T := TX4) (N := 4) hx hb ht i_X4 hown hK hP 0 rfl rfl 0 (by decide) (ht _ wd_138) (fun _ h9 => h9) rfl dX4_helpful_78 ?_
          refine lv_iload hx hb dX4_helpful_81 (lv_at hl 7 rfl) ?_
          refine lv_iload_n hx hb dX4_helpful_83 rfl (lv_at hl 1 rfl) ?_
          obtain ⟨u7, S8, N9, e10, h⟩ := b3_ok h
          refine cp_Vi (ws' := (wX4 o a g ga f n t r cI cC cO L K P Hs S8 N9 T R)) ⟨hx, hb, hml, hown, ht⟩ (c_X3_mostWider l D cI cC cO f n a S N L y7 y1 _ _ e10) (cwv 3 ht wd_420 wd_4 wd_417 wd_418 wd_419 (by decide +kernel) rfl rfl ⟨Nat.le_of_ble_eq_true rfl, Nat.le_of_ble_eq_true rfl⟩) 3 0 rfl rfl rfl hK hP hD hS hA hN (pm1_fa _ _ _ _ _ _) (pm2_fa _ _ _ _ _ _) rfl hl.1 rfl (Nat.le_of_ble_eq_true rfl) dX4_helpful_84 ⟨Nat.le_of_ble_eq_true rfl, Nat.le_of_ble_eq_true rfl⟩ (fun H locs hP hD hS => ?_)
          refine lv_iload_n hx hb dX4_helpful_87 rfl (lv_at hl 3 rfl) ?_
          refine lv_isub hx hb dX4_helpful_88 ?_
          refine lv_goto (tgt := 93) hx hb dX4_helpful_89 (by decide) ?_
          exact w93 S8 N9 y1 y2 y3 y4 y5 y6 y7 (u7 - y3) _ _ ls h hP hD hS (lv_sub hl [0, 1, 2, 3, 4, 5, 6, 7] rfl)
  unfold F_X4_helpful at h
  refine lv_iload_n hx hb dX4_helpful_0 rfl (lv_at hl 1 rfl) ?_
  obtain ⟨u1, e2, h⟩ := b1_ok h
  refine cp_Si (ws' := (wX4 o a g ga f n t r cI cC cO L K P Hs S N T R)) ⟨hx, hb, hml, hown, ht⟩ (c_X4_isTick l D cI cC cO x1 _ _ e2) (cwst 1 ht wd_238 wd_1 wd_345 wd_237 (by decide +kernel) rfl rfl ⟨Nat.le_of_ble_eq_true rfl, Nat.le_of_ble_eq_true rfl⟩) hK hP hD hS hA hN (pm1_0 _) (pm2_0 _) rfl hl.1 rfl (Nat.le_of_ble_eq_true rfl) dX4_helpful_1 ⟨Nat.le_of_ble_eq_true rfl, Nat.le_of_ble_eq_true rfl⟩ (fun H locs hP hD hS => ?_)
  refine lv_if_eq (tgt := 16) hx hb dX4_helpful_4 (by decide) (fun c3 => ?_) (fun c3 => ?_)
  · replace h := fp c3 h
    refine lv_ldc hx hb hown (ht _ wd_162) dX4_helpful_16 ?_
    cases h
    exact rt_i hx hb hr hlocks hS hP hK hD dX4_helpful_18
  · replace h := fn c3 h
    refine lv_iload_n hx hb dX4_helpful_7 rfl (lv_at hl 2 rfl) ?_
    refine lv_iconst (v := (0 : Int32)) hx hb dX4_helpful_8 (by decide) ?_
    refine lv_iconst (v := (1 : Int32)) hx hb dX4_helpful_9 (by decide) ?_
    obtain ⟨u4, e5, h⟩ := b1_ok h
    refine cp_Si (ws' := (wX4 o a g ga f n t r cI cC cO L K P Hs S N T R)) ⟨hx, hb, hml, hown, ht⟩ (c_X4_within l D cI cC cO x2 (0 : Int32) (1 : Int32) _ _ e5) (cwst 3 ht wd_161 wd_1 wd_239 wd_160 (by decide +kernel) rfl rfl ⟨Nat.le_of_ble_eq_true rfl, Nat.le_of_ble_eq_true rfl⟩) hK hP hD hS hA hN (pm1_0 _) (pm2_0 _) rfl hl.1 rfl (Nat.le_of_ble_eq_true rfl) dX4_helpful_10 ⟨Nat.le_of_ble_eq_true rfl, Nat.le_of_ble_eq_true rfl⟩ (fun H locs hP hD hS => ?_)
    refine lv_if_ne (tgt := 19) hx hb dX4_helpful_13 (by decide) (fun c6 => ?_) (fun c6 => ?_)
    · replace h := fn c6 h
      refine lv_aload_n hx hb dX4_helpful_19 rfl (lv_at hl 0 rfl) ?_
      refine va_get (D := D) (ci := 4) (v := .ref (f 0)) (C := RX4) (T := TX4) (N := 4) hx hb ht i_X4 hown hK hP 0 rfl rfl 2 (by decide) (ht _ wd_140) (fun _ h9 => h9) rfl dX4_helpful_20 ?_
      refine lv_aload_n hx hb dX4_helpful_23 rfl (lv_at hl 0 rfl) ?_
      refine va_get (D := D) (ci := 4) (v := .ref (a 0)) (C := RX4) (T := TX4) (N := 4) hx hb ht i_X4 hown hK hP 0 rfl rfl 0 (by decide) (ht _ wd_138) (fun _ h9 => h9) rfl dX4_helpful_24 ?_
      refine lv_iload_n hx hb dX4_helpful_27 rfl (lv_at hl 1 rfl) ?_
      obtain ⟨u7, S8, N9, e10, h⟩ := b3_ok h
      refine cp_Vi (ws' := (wX4 o a g ga f n t r cI cC cO L K P Hs S8 N9 T R)) ⟨hx, hb, hml, hown, ht⟩ (c_X3_most l D cI cC cO f n a S N L x1 _ _ e10) (cwv 2 ht wd_349 wd_4 wd_346 wd_347 wd_348 (by decide +kernel) rfl rfl ⟨Nat.le_of_ble_eq_true rfl, Nat.le_of_ble_eq_true rfl⟩) 3 0 rfl rfl rfl hK hP hD hS hA hN (pm1_fa _ _ _ _ _ _) (pm2_fa _ _ _ _ _ _) rfl hl.1 rfl (Nat.le_of_ble_eq_true rfl) dX4_helpful_28 ⟨Nat.le_of_ble_eq_true rfl, Nat.le_of_ble_eq_true rfl⟩ (fun H locs hP hD hS => ?_)
      refine lv_istore_n (lv' := [(3, .int u7), (0, .ref (o 0)), (1, .int x1), (2, .int x2)]) hx hb dX4_helpful_31 rfl hl (by decide) rfl (fun ls hl => ?_)
      refine lv_aload_n hx hb dX4_helpful_32 rfl (lv_at hl 1 rfl) ?_
      refine va_get (D := D) (ci := 4) (v := .ref (f 0)) (C := RX4) (T := TX4) (N := 4) hx hb ht i_X4 hown hK hP 0 rfl rfl 2 (by decide) (ht _ wd_140) (fun _ h9 => h9) rfl dX4_helpful_33 ?_
      refine lv_iload_n hx hb dX4_helpful_36 rfl (lv_at hl 2 rfl) ?_
      obtain ⟨u11, e12, h⟩ := b1_ok h
      refine cp_Vi (ws' := (wX4 o a g ga f n t r cI cC cO L K P Hs S8 N9 T R)) ⟨hx, hb, hml, hown, ht⟩ (c_X3_narrowPipes l D cI cC cO f n S8 N9 x1 _ _ e12) (cwv 1 ht wd_382 wd_4 wd_379 wd_380 wd_381 (by decide +kernel) rfl rfl ⟨Nat.le_of_ble_eq_true rfl, Nat.le_of_ble_eq_true rfl⟩) 3 0 rfl rfl rfl hK hP hD hS hA hN (pm1_f _ _ _ _ _ _) (pm2_f _ _ _ _ _ _) rfl hl.1 rfl (Nat.le_of_ble_eq_true rfl) dX4_helpful_37 ⟨Nat.le_of_ble_eq_true rfl, Nat.le_of_ble_eq_true rfl⟩ (fun H locs hP hD hS => ?_)
      refine lv_istore (lv' := [(4, .int u11), (3, .int u7), (0, .ref (o 0)), (1, .int x1), (2, .int x2)]) hx hb dX4_helpful_40 hl (by decide) rfl (fun ls hl => ?_)
      refine lv_iconst (v := (0 : Int32)) hx hb dX4_helpful_42 (by decide) ?_
      refine lv_istore (lv' := [(5, .int (0 : Int32)), (4, .int u11), (3, .int u7), (0, .ref (o 0)), (1, .int x1), (2, .int x2)]) hx hb dX4_helpful_43 hl (by decide) rfl (fun ls hl => ?_)
      refine lv_iconst (v := (-1 : Int32)) hx hb dX4_helpful_45 (by decide) ?_
      refine lv_istore (lv' := [(6, .int (-1 : Int32)), (5, .int (0 : Int32)), (4, .int u11), (3, .int u7), (0, .ref (o 0)), (1, .int x1), (2, .int x2)]) hx hb dX4_helpful_46 hl (by decide) rfl (fun ls hl => ?_)
      refine lv_iconst (v := (0 : Int32)) hx hb dX4_helpful_48 (by decide) ?_
      refine lv_istore (lv' := [(7, .int (0 : Int32)), (6, .int (-1 : Int32)), (5, .int (0 : Int32)), (4, .int u11), (3, .int u7), (0, .ref (o 0)), (1, .int x1), (2, .int x2)]) hx hb dX4_helpful_49 hl (by decide) rfl (fun ls hl => ?_)
      exact w51 FU S8 N9 x1 x2 u7 u11 (0 : Int32) (-1 : Int32) (0 : Int32) _ _ ls h hP hD hS (lv_sub hl [5, 6, 7, 4, 3, 2, 1, 0] rfl)
    · replace h := fp c6 h
      refine lv_ldc hx hb hown (ht _ wd_162) dX4_helpful_16 ?_
      cases h
      exact rt_i hx hb hr hlocks hS hP hK hD dX4_helpful_18
theorem dX4_withOneMore_0 : decode cX4_withOneMore 0 = .ok (.iload_n 1, 1) := by decide +kernel
theorem dX4_withOneMore_1 : decode cX4_withOneMore 1 = .ok (.invokestatic 119, 3) := by decide +kernel
theorem dX4_withOneMore_4 : decode cX4_withOneMore 4 = .ok (.ifCond .eq 14, 3) := by decide +kernel
theorem dX4_withOneMore_7 : decode cX4_withOneMore 7 = .ok (.aload_n 0, 1) := by decide +kernel
theorem dX4_withOneMore_8 : decode cX4_withOneMore 8 = .ok (.getfield 10, 3) := by decide +kernel
theorem dX4_withOneMore_11 : decode cX4_withOneMore 11 = .ok (.iload_n 2, 1) := by decide +kernel
theorem dX4_withOneMore_12 : decode cX4_withOneMore 12 = .ok (.invokevirtual 106, 3) := by decide +kernel
theorem dX4_withOneMore_15 : decode cX4_withOneMore 15 = .ok (.ifCond .ne 6, 3) := by decide +kernel
theorem dX4_withOneMore_18 : decode cX4_withOneMore 18 = .ok (.ldc 41, 2) := by decide +kernel
theorem dX4_withOneMore_20 : decode cX4_withOneMore 20 = .ok (.ireturn, 1) := by decide +kernel
theorem dX4_withOneMore_21 : decode cX4_withOneMore 21 = .ok (.aload_n 0, 1) := by decide +kernel
theorem dX4_withOneMore_22 : decode cX4_withOneMore 22 = .ok (.getfield 26, 3) := by decide +kernel
theorem dX4_withOneMore_25 : decode cX4_withOneMore 25 = .ok (.aload_n 0, 1) := by decide +kernel
theorem dX4_withOneMore_26 : decode cX4_withOneMore 26 = .ok (.getfield 10, 3) := by decide +kernel
theorem dX4_withOneMore_29 : decode cX4_withOneMore 29 = .ok (.iload_n 2, 1) := by decide +kernel
theorem dX4_withOneMore_30 : decode cX4_withOneMore 30 = .ok (.iload_n 1, 1) := by decide +kernel
theorem dX4_withOneMore_31 : decode cX4_withOneMore 31 = .ok (.invokevirtual 157, 3) := by decide +kernel
theorem dX4_withOneMore_34 : decode cX4_withOneMore 34 = .ok (.ireturn, 1) := by decide +kernel
set_option maxHeartbeats 4000000 in
set_option maxRecDepth 100000 in
theorem c_X4_withOneMore (l : Launch) (D : va_G) (cI cC cO : ClassId) (o : Nat → Nat) (a : Nat → Nat) (g : Nat → Nat) (ga : Nat → Nat → Nat) (f : Nat → Nat) (n : Nat → Nat) (t : Nat → Nat) (r : Nat → Nat) (L : Mm) (K : Mm) (P : Nat → Nat) (Hs : Nat → Mm) (S : Mm) (N : Mm) (T : Mm) (R : Mm) (x1 x2 : Int32) (res : Int32 × Mm × Mm) (sz : Nat) (h : F_X4_withOneMore L K P Hs S N T R x1 x2 = some res) : Met l yX4_withOneMore (Cond.code yX4_withOneMore cX4_withOneMore 3 (Option.some Jvm.ClassFile.FieldType.int) :: lw_g) ({ frames := 6, cells := 0, slots := 0, locals := 140 } : Room) (va_Pc [.ref (o 0), .int x1, .int x2] (pS D cI cC cO sz (wX4 o a g ga f n t r cI cC cO L K P Hs S N T R))) (QI D cI cC cO (va_A (wX4 o a g ga f n t r cI cC cO L K P Hs S N T R) sz) (wX4 o a g ga f n t r cI cC cO L K P Hs res.2.1 res.2.2 T R) res.1) 0 0 (va_A (wX4 o a g ga f n t r cI cC cO L K P Hs S N T R) sz) := by
  refine Met.ofW (cc := cX4_withOneMore) (maxL := 3) (ret := (Option.some Jvm.ClassFile.FieldType.int)) (by decide) rfl ?_
  intro p e s m args below meth c s₁ B hml hv
  obtain ⟨rfl, rfl, hP, hK, hD0, hN⟩ := hv
  have hx := B.exec
  have hb := B.bytes
  have hr := B.returns
  have ht : ∀ w ∈ lw_g, w.before ([.ref (o 0), .int x1, .int x2] : List Value).toArray s = true := fun w hw => atoms_spec (ws := Cond.code yX4_withOneMore cX4_withOneMore 3 (Option.some Jvm.ClassFile.FieldType.int) :: lw_g) B.pre w (List.mem_cons_of_mem _ hw)
  have hown : s.vm.findClass RX4 = some m.cls := findClass_of_methodNamed B.named
  have hlocks := B.notSynchronized
  have hD := hD0.self (sz := s.heap.size)
  generalize hAe : va_A (wX4 o a g ga f n t r cI cC cO L K P Hs S N T R) s.heap.size = A at hD ⊢
  have hA : ∀ q : Nat, s.heap.size ≤ q → A q := fun q hq => by rw [← hAe]; exact Or.inr hq
  have hS : va_S A s.heap s.heap [] := va_S.rf
  have hl := lv_entry ([.ref (o 0), .int x1, .int x2]) (n := 3) (Nat.le_of_ble_eq_true rfl)
  rw [lg_entry_eq]
  generalize (lg_sl ([.ref (o 0), .int x1, .int x2]) ++ List.replicate (3 - (lg_sl ([.ref (o 0), .int x1, .int x2])).length) Slot.unset).toArray = ls at hl ⊢
  have hl : lv_has ls 3 [(0, .ref (o 0)), (1, .int x1), (2, .int x2)] := hl
  unfold F_X4_withOneMore at h
  refine lv_iload_n hx hb dX4_withOneMore_0 rfl (lv_at hl 1 rfl) ?_
  obtain ⟨u1, e2, h⟩ := b1_ok h
  refine cp_Si (ws' := (wX4 o a g ga f n t r cI cC cO L K P Hs S N T R)) ⟨hx, hb, hml, hown, ht⟩ (c_X4_isTick l D cI cC cO x1 _ _ e2) (cwst 1 ht wd_238 wd_1 wd_345 wd_237 (by decide +kernel) rfl rfl ⟨Nat.le_of_ble_eq_true rfl, Nat.le_of_ble_eq_true rfl⟩) hK hP hD hS hA hN (pm1_0 _) (pm2_0 _) rfl hl.1 rfl (Nat.le_of_ble_eq_true rfl) dX4_withOneMore_1 ⟨Nat.le_of_ble_eq_true rfl, Nat.le_of_ble_eq_true rfl⟩ (fun H locs hP hD hS => ?_)
  refine lv_if_eq (tgt := 18) hx hb dX4_withOneMore_4 (by decide) (fun c3 => ?_) (fun c3 => ?_)
  · replace h := fp c3 h
    refine lv_ldc hx hb hown (ht _ wd_162) dX4_withOneMore_18 ?_
    cases h
    exact rt_i hx hb hr hlocks hS hP hK hD dX4_withOneMore_20
  · replace h := fn c3 h
    refine lv_aload_n hx hb dX4_withOneMore_7 rfl (lv_at hl 0 rfl) ?_
    refine va_get (D := D) (ci := 4) (v := .ref (a 0)) (C := RX4) (T := TX4) (N := 4) hx hb ht i_X4 hown hK hP 0 rfl rfl 0 (by decide) (ht _ wd_138) (fun _ h9 => h9) rfl dX4_withOneMore_8 ?_
    refine lv_iload_n hx hb dX4_withOneMore_11 rfl (lv_at hl 2 rfl) ?_
    obtain ⟨u4, e5, h⟩ := b1_ok h
    refine cp_Vi (ws' := (wX4 o a g ga f n t r cI cC cO L K P Hs S N T R)) ⟨hx, hb, hml, hown, ht⟩ (c_X1_isPlace l D cI cC cO a L x2 _ _ e5) (cwv 1 ht wd_198 wd_2 wd_265 wd_196 wd_197 (by decide +kernel) rfl rfl ⟨Nat.le_of_ble_eq_true rfl, Nat.le_of_ble_eq_true rfl⟩) 1 0 rfl rfl rfl hK hP hD hS hA hN (pm1_a _ _ _ _ _ _) (pm2_a _ _ _ _ _ _) rfl hl.1 rfl (Nat.le_of_ble_eq_true rfl) dX4_withOneMore_12 ⟨Nat.le_of_ble_eq_true rfl, Nat.le_of_ble_eq_true rfl⟩ (fun H locs hP hD hS => ?_)
    refine lv_if_ne (tgt := 21) hx hb dX4_withOneMore_15 (by decide) (fun c6 => ?_) (fun c6 => ?_)
    · replace h := fn c6 h
      refine lv_aload_n hx hb dX4_withOneMore_21 rfl (lv_at hl 0 rfl) ?_
      refine va_get (D := D) (ci := 4) (v := .ref (f 0)) (C := RX4) (T := TX4) (N := 4) hx hb ht i_X4 hown hK hP 0 rfl rfl 2 (by decide) (ht _ wd_140) (fun _ h9 => h9) rfl dX4_withOneMore_22 ?_
      refine lv_aload_n hx hb dX4_withOneMore_25 rfl (lv_at hl 0 rfl) ?_
      refine va_get (D := D) (ci := 4) (v := .ref (a 0)) (C := RX4) (T := TX4) (N := 4) hx hb ht i_X4 hown hK hP 0 rfl rfl 0 (by decide) (ht _ wd_138) (fun _ h9 => h9) rfl dX4_withOneMore_26 ?_
      refine lv_iload_n hx hb dX4_withOneMore_29 rfl (lv_at hl 2 rfl) ?_
      refine lv_iload_n hx hb dX4_withOneMore_30 rfl (lv_at hl 1 rfl) ?_
      obtain ⟨u7, S8, N9, e10, h⟩ := b3_ok h
      refine cp_Vi (ws' := (wX4 o a g ga f n t r cI cC cO L K P Hs S8 N9 T R)) ⟨hx, hb, hml, hown, ht⟩ (c_X3_mostWithUnit l D cI cC cO f n a S N L x2 x1 _ _ e10) (cwv 3 ht wd_428 wd_4 wd_425 wd_426 wd_427 (by decide +kernel) rfl rfl ⟨Nat.le_of_ble_eq_true rfl, Nat.le_of_ble_eq_true rfl⟩) 3 0 rfl rfl rfl hK hP hD hS hA hN (pm1_fa _ _ _ _ _ _) (pm2_fa _ _ _ _ _ _) rfl hl.1 rfl (Nat.le_of_ble_eq_true rfl) dX4_withOneMore_31 ⟨Nat.le_of_ble_eq_true rfl, Nat.le_of_ble_eq_true rfl⟩ (fun H locs hP hD hS => ?_)
      cases h
      exact rt_i hx hb hr hlocks hS hP hK hD dX4_withOneMore_34
    · replace h := fp c6 h
      refine lv_ldc hx hb hown (ht _ wd_162) dX4_withOneMore_18 ?_
      cases h
      exact rt_i hx hb hr hlocks hS hP hK hD dX4_withOneMore_20
theorem dX4_count_0 : decode cX4_count 0 = .ok (.iload_n 1, 1) := by decide +kernel
theorem dX4_count_1 : decode cX4_count 1 = .ok (.tableswitch 87 0 5 #[39, 47, 55, 63, 71, 79], 39) := by decide +kernel
theorem dX4_count_40 : decode cX4_count 40 = .ok (.aload_n 0, 1) := by decide +kernel
theorem dX4_count_41 : decode cX4_count 41 = .ok (.getfield 10, 3) := by decide +kernel
theorem dX4_count_44 : decode cX4_count 44 = .ok (.getfield 160, 3) := by decide +kernel
theorem dX4_count_47 : decode cX4_count 47 = .ok (.ireturn, 1) := by decide +kernel
theorem dX4_count_48 : decode cX4_count 48 = .ok (.aload_n 0, 1) := by decide +kernel
theorem dX4_count_49 : decode cX4_count 49 = .ok (.getfield 10, 3) := by decide +kernel
theorem dX4_count_52 : decode cX4_count 52 = .ok (.getfield 72, 3) := by decide +kernel
theorem dX4_count_55 : decode cX4_count 55 = .ok (.ireturn, 1) := by decide +kernel
theorem dX4_count_56 : decode cX4_count 56 = .ok (.aload_n 0, 1) := by decide +kernel
theorem dX4_count_57 : decode cX4_count 57 = .ok (.getfield 10, 3) := by decide +kernel
theorem dX4_count_60 : decode cX4_count 60 = .ok (.invokevirtual 125, 3) := by decide +kernel
theorem dX4_count_63 : decode cX4_count 63 = .ok (.ireturn, 1) := by decide +kernel
theorem dX4_count_64 : decode cX4_count 64 = .ok (.aload_n 0, 1) := by decide +kernel
theorem dX4_count_65 : decode cX4_count 65 = .ok (.getfield 10, 3) := by decide +kernel
theorem dX4_count_68 : decode cX4_count 68 = .ok (.invokevirtual 163, 3) := by decide +kernel
theorem dX4_count_71 : decode cX4_count 71 = .ok (.ireturn, 1) := by decide +kernel
theorem dX4_count_72 : decode cX4_count 72 = .ok (.aload_n 0, 1) := by decide +kernel
theorem dX4_count_73 : decode cX4_count 73 = .ok (.getfield 19, 3) := by decide +kernel
theorem dX4_count_76 : decode cX4_count 76 = .ok (.getfield 166, 3) := by decide +kernel
theorem dX4_count_79 : decode cX4_count 79 = .ok (.ireturn, 1) := by decide +kernel
theorem dX4_count_80 : decode cX4_count 80 = .ok (.aload_n 0, 1) := by decide +kernel
theorem dX4_count_81 : decode cX4_count 81 = .ok (.getfield 33, 3) := by decide +kernel
theorem dX4_count_84 : decode cX4_count 84 = .ok (.getfield 169, 3) := by decide +kernel
theorem dX4_count_87 : decode cX4_count 87 = .ok (.ireturn, 1) := by decide +kernel
theorem dX4_count_88 : decode cX4_count 88 = .ok (.ldc 41, 2) := by decide +kernel
theorem dX4_count_90 : decode cX4_count 90 = .ok (.ireturn, 1) := by decide +kernel
set_option maxHeartbeats 4000000 in
set_option maxRecDepth 100000 in
theorem c_X4_count (l : Launch) (D : va_G) (cI cC cO : ClassId) (o : Nat → Nat) (a : Nat → Nat) (g : Nat → Nat) (ga : Nat → Nat → Nat) (f : Nat → Nat) (n : Nat → Nat) (t : Nat → Nat) (r : Nat → Nat) (L : Mm) (K : Mm) (P : Nat → Nat) (Hs : Nat → Mm) (S : Mm) (N : Mm) (T : Mm) (R : Mm) (x1 : Int32) (res : Int32) (sz : Nat) (h : F_X4_count L K P Hs S N T R x1 = some res) : Met l yX4_count (Cond.code yX4_count cX4_count 2 (Option.some Jvm.ClassFile.FieldType.int) :: lw_g) ({ frames := 2, cells := 0, slots := 0, locals := 44 } : Room) (va_Pc [.ref (o 0), .int x1] (pS D cI cC cO sz (wX4 o a g ga f n t r cI cC cO L K P Hs S N T R))) (QI D cI cC cO (va_A (wX4 o a g ga f n t r cI cC cO L K P Hs S N T R) sz) (wX4 o a g ga f n t r cI cC cO L K P Hs S N T R) res) 0 0 (va_A (wX4 o a g ga f n t r cI cC cO L K P Hs S N T R) sz) := by
  refine Met.ofW (cc := cX4_count) (maxL := 2) (ret := (Option.some Jvm.ClassFile.FieldType.int)) (by decide) rfl ?_
  intro p e s m args below meth c s₁ B hml hv
  obtain ⟨rfl, rfl, hP, hK, hD0, hN⟩ := hv
  have hx := B.exec
  have hb := B.bytes
  have hr := B.returns
  have ht : ∀ w ∈ lw_g, w.before ([.ref (o 0), .int x1] : List Value).toArray s = true := fun w hw => atoms_spec (ws := Cond.code yX4_count cX4_count 2 (Option.some Jvm.ClassFile.FieldType.int) :: lw_g) B.pre w (List.mem_cons_of_mem _ hw)
  have hown : s.vm.findClass RX4 = some m.cls := findClass_of_methodNamed B.named
  have hlocks := B.notSynchronized
  have hD := hD0.self (sz := s.heap.size)
  generalize hAe : va_A (wX4 o a g ga f n t r cI cC cO L K P Hs S N T R) s.heap.size = A at hD ⊢
  have hA : ∀ q : Nat, s.heap.size ≤ q → A q := fun q hq => by rw [← hAe]; exact Or.inr hq
  have hS : va_S A s.heap s.heap [] := va_S.rf
  have hl := lv_entry ([.ref (o 0), .int x1]) (n := 2) (Nat.le_of_ble_eq_true rfl)
  rw [lg_entry_eq]
  generalize (lg_sl ([.ref (o 0), .int x1]) ++ List.replicate (2 - (lg_sl ([.ref (o 0), .int x1])).length) Slot.unset).toArray = ls at hl ⊢
  have hl : lv_has ls 2 [(0, .ref (o 0)), (1, .int x1)] := hl
  unfold F_X4_count at h
  refine lv_iload_n hx hb dX4_count_0 rfl (lv_at hl 1 rfl) ?_
  by_cases c1 : x1 = (0 : Int32)
  · replace h := fp c1 h
    refine lv_tableIn (off := 39) (tgt := 40) hx hb dX4_count_1 (by rw [c1]; decide) (by rw [c1]; decide) (by rw [c1]; rfl) (by decide) ?_
    refine lv_aload_n hx hb dX4_count_40 rfl (lv_at hl 0 rfl) ?_
    refine va_get (D := D) (ci := 4) (v := .ref (a 0)) (C := RX4) (T := TX4) (N := 4) hx hb ht i_X4 hown hK hP 0 rfl rfl 0 (by decide) (ht _ wd_138) (fun _ h9 => h9) rfl dX4_count_41 ?_
    refine va_getN (D := D) (ci := 1) (v := .int (L 3 0)) (C := RX1) (T := TX1) (N := 5) hx hb ht i_X1 hown hK hP 1 rfl rfl 3 (by decide) (va_Nw.use rfl (hN.1 _ _ _ _ _ _ wd_33)) (fun _ h9 => h9) rfl dX4_count_44 ?_
    cases h
    exact rt_i hx hb hr hlocks hS hP hK hD dX4_count_47
  · replace h := fn c1 h
    by_cases c2 : x1 = (1 : Int32)
    · replace h := fp c2 h
      refine lv_tableIn (off := 47) (tgt := 48) hx hb dX4_count_1 (by rw [c2]; decide) (by rw [c2]; decide) (by rw [c2]; rfl) (by decide) ?_
      refine lv_aload_n hx hb dX4_count_48 rfl (lv_at hl 0 rfl) ?_
      refine va_get (D := D) (ci := 4) (v := .ref (a 0)) (C := RX4) (T := TX4) (N := 4) hx hb ht i_X4 hown hK hP 0 rfl rfl 0 (by decide) (ht _ wd_138) (fun _ h9 => h9) rfl dX4_count_49 ?_
      refine va_getN (D := D) (ci := 1) (v := .int (L 3 1)) (C := RX1) (T := TX1) (N := 5) hx hb ht i_X1 hown hK hP 1 rfl rfl 4 (by decide) (va_Nw.use rfl (hN.1 _ _ _ _ _ _ wd_36)) (fun _ h9 => h9) rfl dX4_count_52 ?_
      cases h
      exact rt_i hx hb hr hlocks hS hP hK hD dX4_count_55
    · replace h := fn c2 h
      by_cases c3 : x1 = (2 : Int32)
      · replace h := fp c3 h
        refine lv_tableIn (off := 55) (tgt := 56) hx hb dX4_count_1 (by rw [c3]; decide) (by rw [c3]; decide) (by rw [c3]; rfl) (by decide) ?_
        refine lv_aload_n hx hb dX4_count_56 rfl (lv_at hl 0 rfl) ?_
        refine va_get (D := D) (ci := 4) (v := .ref (a 0)) (C := RX4) (T := TX4) (N := 4) hx hb ht i_X4 hown hK hP 0 rfl rfl 0 (by decide) (ht _ wd_138) (fun _ h9 => h9) rfl dX4_count_57 ?_
        obtain ⟨u4, e5, h⟩ := b1_ok h
        refine cp_Vi (ws' := (wX4 o a g ga f n t r cI cC cO L K P Hs S N T R)) ⟨hx, hb, hml, hown, ht⟩ (c_X1_allUnits l D cI cC cO a L _ _ e5) (cwv 0 ht wd_361 wd_2 wd_358 wd_359 wd_360 (by decide +kernel) rfl rfl ⟨Nat.le_of_ble_eq_true rfl, Nat.le_of_ble_eq_true rfl⟩) 1 0 rfl rfl rfl hK hP hD hS hA hN (pm1_a _ _ _ _ _ _) (pm2_a _ _ _ _ _ _) rfl hl.1 rfl (Nat.le_of_ble_eq_true rfl) dX4_count_60 ⟨Nat.le_of_ble_eq_true rfl, Nat.le_of_ble_eq_true rfl⟩ (fun H locs hP hD hS => ?_)
        cases h
        exact rt_i hx hb hr hlocks hS hP hK hD dX4_count_63
      · replace h := fn c3 h
        by_cases c6 : x1 = (3 : Int32)
        · replace h := fp c6 h
          refine lv_tableIn (off := 63) (tgt := 64) hx hb dX4_count_1 (by rw [c6]; decide) (by rw [c6]; decide) (by rw [c6]; rfl) (by decide) ?_
          refine lv_aload_n hx hb dX4_count_64 rfl (lv_at hl 0 rfl) ?_
          refine va_get (D := D) (ci := 4) (v := .ref (a 0)) (C := RX4) (T := TX4) (N := 4) hx hb ht i_X4 hown hK hP 0 rfl rfl 0 (by decide) (ht _ wd_138) (fun _ h9 => h9) rfl dX4_count_65 ?_
          obtain ⟨u7, e8, h⟩ := b1_ok h
          refine cp_Vi (ws' := (wX4 o a g ga f n t r cI cC cO L K P Hs S N T R)) ⟨hx, hb, hml, hown, ht⟩ (c_X1_allBounds l D cI cC cO a L _ _ e8) (cwv 0 ht wd_436 wd_2 wd_433 wd_434 wd_435 (by decide +kernel) rfl rfl ⟨Nat.le_of_ble_eq_true rfl, Nat.le_of_ble_eq_true rfl⟩) 1 0 rfl rfl rfl hK hP hD hS hA hN (pm1_a _ _ _ _ _ _) (pm2_a _ _ _ _ _ _) rfl hl.1 rfl (Nat.le_of_ble_eq_true rfl) dX4_count_68 ⟨Nat.le_of_ble_eq_true rfl, Nat.le_of_ble_eq_true rfl⟩ (fun H locs hP hD hS => ?_)
          cases h
          exact rt_i hx hb hr hlocks hS hP hK hD dX4_count_71
        · replace h := fn c6 h
          by_cases c9 : x1 = (4 : Int32)
          · replace h := fp c9 h
            refine lv_tableIn (off := 71) (tgt := 72) hx hb dX4_count_1 (by rw [c9]; decide) (by rw [c9]; decide) (by rw [c9]; rfl) (by decide) ?_
            refine lv_aload_n hx hb dX4_count_72 rfl (lv_at hl 0 rfl) ?_
            refine va_get (D := D) (ci := 4) (v := .ref (g 0)) (C := RX4) (T := TX4) (N := 4) hx hb ht i_X4 hown hK hP 0 rfl rfl 1 (by decide) (ht _ wd_139) (fun _ h9 => h9) rfl dX4_count_73 ?_
            refine va_getN (D := D) (ci := 0) (v := .int (K 0 0)) (C := RX0) (T := TX0) (N := 2) hx hb ht i_X0 hown hK hP 5 rfl rfl 1 (by decide) (va_Nw.use rfl (hN.1 _ _ _ _ _ _ wd_61)) (fun _ h9 => h9) rfl dX4_count_76 ?_
            cases h
            exact rt_i hx hb hr hlocks hS hP hK hD dX4_count_79
          · replace h := fn c9 h
            by_cases c10 : x1 = (5 : Int32)
            · replace h := fp c10 h
              refine lv_tableIn (off := 79) (tgt := 80) hx hb dX4_count_1 (by rw [c10]; decide) (by rw [c10]; decide) (by rw [c10]; rfl) (by decide) ?_
              refine lv_aload_n hx hb dX4_count_80 rfl (lv_at hl 0 rfl) ?_
              refine va_get (D := D) (ci := 4) (v := .ref (t 0)) (C := RX4) (T := TX4) (N := 4) hx hb ht i_X4 hown hK hP 0 rfl rfl 3 (by decide) (ht _ wd_141) (fun _ h9 => h9) rfl dX4_count_81 ?_
              refine va_getN (D := D) (ci := 2) (v := .int (T 2 0)) (C := RX2) (T := TX2) (N := 9) hx hb ht i_X2 hown hK hP 32 rfl rfl 3 (by decide) (va_Nw.use rfl (hN.1 _ _ _ _ _ _ wd_110)) (fun _ h9 => h9) rfl dX4_count_84 ?_
              cases h
              exact rt_i hx hb hr hlocks hS hP hK hD dX4_count_87
            · replace h := fn c10 h
              refine lv_tableOut (tgt := 88) hx hb dX4_count_1 (sw_out (x := x1) (n := 6) (by decide) (fun k hk => match k, hk with | 0, _ => c1 | 1, _ => c2 | 2, _ => c3 | 3, _ => c6 | 4, _ => c9 | 5, _ => c10 | k + 6, hk => absurd hk (by omega))) (by decide) ?_
              refine lv_ldc hx hb hown (ht _ wd_162) dX4_count_88 ?_
              cases h
              exact rt_i hx hb hr hlocks hS hP hK hD dX4_count_90
theorem dX4_undo_0 : decode cX4_undo 0 = .ok (.aload_n 0, 1) := by decide +kernel
theorem dX4_undo_1 : decode cX4_undo 1 = .ok (.getfield 19, 3) := by decide +kernel
theorem dX4_undo_4 : decode cX4_undo 4 = .ok (.getfield 166, 3) := by decide +kernel
theorem dX4_undo_7 : decode cX4_undo 7 = .ok (.ifCond .ne 6, 3) := by decide +kernel
theorem dX4_undo_10 : decode cX4_undo 10 = .ok (.ldc 172, 2) := by decide +kernel
theorem dX4_undo_12 : decode cX4_undo 12 = .ok (.ireturn, 1) := by decide +kernel
theorem dX4_undo_13 : decode cX4_undo 13 = .ok (.aload_n 0, 1) := by decide +kernel
theorem dX4_undo_14 : decode cX4_undo 14 = .ok (.getfield 19, 3) := by decide +kernel
theorem dX4_undo_17 : decode cX4_undo 17 = .ok (.aload_n 0, 1) := by decide +kernel
theorem dX4_undo_18 : decode cX4_undo 18 = .ok (.getfield 10, 3) := by decide +kernel
theorem dX4_undo_21 : decode cX4_undo 21 = .ok (.invokevirtual 173, 3) := by decide +kernel
theorem dX4_undo_24 : decode cX4_undo 24 = .ok (.aload_n 0, 1) := by decide +kernel
theorem dX4_undo_25 : decode cX4_undo 25 = .ok (.getfield 19, 3) := by decide +kernel
theorem dX4_undo_28 : decode cX4_undo 28 = .ok (.getfield 166, 3) := by decide +kernel
theorem dX4_undo_31 : decode cX4_undo 31 = .ok (.ireturn, 1) := by decide +kernel
set_option maxHeartbeats 4000000 in
set_option maxRecDepth 100000 in
theorem c_X4_undo (l : Launch) (D : va_G) (cI cC cO : ClassId) (o : Nat → Nat) (a : Nat → Nat) (g : Nat → Nat) (ga : Nat → Nat → Nat) (f : Nat → Nat) (n : Nat → Nat) (t : Nat → Nat) (r : Nat → Nat) (L : Mm) (K : Mm) (P : Nat → Nat) (Hs : Nat → Mm) (S : Mm) (N : Mm) (T : Mm) (R : Mm) (res : Int32 × Mm × Mm) (sz : Nat) (h : F_X4_undo L K P Hs S N T R = some res) : Met l yX4_undo (Cond.code yX4_undo cX4_undo 1 (Option.some Jvm.ClassFile.FieldType.int) :: lw_g) ({ frames := 3, cells := 0, slots := 0, locals := 102 } : Room) (va_Pc [.ref (o 0)] (pS D cI cC cO sz (wX4 o a g ga f n t r cI cC cO L K P Hs S N T R))) (QI D cI cC cO (va_A (wX4 o a g ga f n t r cI cC cO L K P Hs S N T R) sz) (wX4 o a g ga f n t r cI cC cO res.2.1 res.2.2 P Hs S N T R) res.1) 0 0 (va_A (wX4 o a g ga f n t r cI cC cO L K P Hs S N T R) sz) := by
  refine Met.ofW (cc := cX4_undo) (maxL := 1) (ret := (Option.some Jvm.ClassFile.FieldType.int)) (by decide) rfl ?_
  intro p e s m args below meth c s₁ B hml hv
  obtain ⟨rfl, rfl, hP, hK, hD0, hN⟩ := hv
  have hx := B.exec
  have hb := B.bytes
  have hr := B.returns
  have ht : ∀ w ∈ lw_g, w.before ([.ref (o 0)] : List Value).toArray s = true := fun w hw => atoms_spec (ws := Cond.code yX4_undo cX4_undo 1 (Option.some Jvm.ClassFile.FieldType.int) :: lw_g) B.pre w (List.mem_cons_of_mem _ hw)
  have hown : s.vm.findClass RX4 = some m.cls := findClass_of_methodNamed B.named
  have hlocks := B.notSynchronized
  have hD := hD0.self (sz := s.heap.size)
  generalize hAe : va_A (wX4 o a g ga f n t r cI cC cO L K P Hs S N T R) s.heap.size = A at hD ⊢
  have hA : ∀ q : Nat, s.heap.size ≤ q → A q := fun q hq => by rw [← hAe]; exact Or.inr hq
  have hS : va_S A s.heap s.heap [] := va_S.rf
  have hl := lv_entry ([.ref (o 0)]) (n := 1) (Nat.le_of_ble_eq_true rfl)
  rw [lg_entry_eq]
  generalize (lg_sl ([.ref (o 0)]) ++ List.replicate (1 - (lg_sl ([.ref (o 0)])).length) Slot.unset).toArray = ls at hl ⊢
  have hl : lv_has ls 1 [(0, .ref (o 0))] := hl
  unfold F_X4_undo at h
  refine lv_aload_n hx hb dX4_undo_0 rfl (lv_at hl 0 rfl) ?_
  refine va_get (D := D) (ci := 4) (v := .ref (g 0)) (C := RX4) (T := TX4) (N := 4) hx hb ht i_X4 hown hK hP 0 rfl rfl 1 (by decide) (ht _ wd_139) (fun _ h9 => h9) rfl dX4_undo_1 ?_
  refine va_getN (D := D) (ci := 0) (v := .int (K 0 0)) (C := RX0) (T := TX0) (N := 2) hx hb ht i_X0 hown hK hP 5 rfl rfl 1 (by decide) (va_Nw.use rfl (hN.1 _ _ _ _ _ _ wd_61)) (fun _ h9 => h9) rfl dX4_undo_4 ?_
  refine lv_if_ne (tgt := 13) hx hb dX4_undo_7 (by decide) (fun c1 => ?_) (fun c1 => ?_)
  · replace h := fn c1 h
    refine lv_aload_n hx hb dX4_undo_13 rfl (lv_at hl 0 rfl) ?_
    refine va_get (D := D) (ci := 4) (v := .ref (g 0)) (C := RX4) (T := TX4) (N := 4) hx hb ht i_X4 hown hK hP 0 rfl rfl 1 (by decide) (ht _ wd_139) (fun _ h9 => h9) rfl dX4_undo_14 ?_
    refine lv_aload_n hx hb dX4_undo_17 rfl (lv_at hl 0 rfl) ?_
    refine va_get (D := D) (ci := 4) (v := .ref (a 0)) (C := RX4) (T := TX4) (N := 4) hx hb ht i_X4 hown hK hP 0 rfl rfl 0 (by decide) (ht _ wd_138) (fun _ h9 => h9) rfl dX4_undo_18 ?_
    obtain ⟨K2, L3, e4, h⟩ := b2_ok h
    refine cp_Vv (ws' := (wX4 o a g ga f n t r cI cC cO L3 K2 P Hs S N T R)) ⟨hx, hb, hml, hown, ht⟩ (c_X0_restore l D cI cC cO g ga a K P Hs L _ _ e4) (cwv 1 ht wd_445 wd_3 wd_442 wd_443 wd_444 (by decide +kernel) rfl rfl ⟨Nat.le_of_ble_eq_true rfl, Nat.le_of_ble_eq_true rfl⟩) 0 0 rfl rfl rfl hK hP hD hS hA hN (pm1_ga _ _ _ _ _ _) (pm2_ga _ _ _ _ _ _) rfl hl.1 rfl (Nat.le_of_ble_eq_true rfl) dX4_undo_21 ⟨Nat.le_of_ble_eq_true rfl, Nat.le_of_ble_eq_true rfl⟩ (fun H locs hP hD hS => ?_)
    refine lv_aload_n hx hb dX4_undo_24 rfl (lv_at hl 0 rfl) ?_
    refine va_get (D := D) (ci := 4) (v := .ref (g 0)) (C := RX4) (T := TX4) (N := 4) hx hb ht i_X4 hown hK hP 0 rfl rfl 1 (by decide) (ht _ wd_139) (fun _ h9 => h9) rfl dX4_undo_25 ?_
    refine va_getN (D := D) (ci := 0) (v := .int (K2 0 0)) (C := RX0) (T := TX0) (N := 2) hx hb ht i_X0 hown hK hP 5 rfl rfl 1 (by decide) (va_Nw.use rfl (hN.1 _ _ _ _ _ _ wd_61)) (fun _ h9 => h9) rfl dX4_undo_28 ?_
    cases h
    exact rt_i hx hb hr hlocks hS hP hK hD dX4_undo_31
  · replace h := fp c1 h
    refine lv_ldc hx hb hown (ht _ wd_441) dX4_undo_10 ?_
    cases h
    exact rt_i hx hb hr hlocks hS hP hK hD dX4_undo_12
