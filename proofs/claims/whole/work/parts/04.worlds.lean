abbrev wX1 (a : Nat → Nat) (cI cC cO : ClassId) (L : Mm) : va_W := [(a 0, .inr (1, [.ref (a 1), .ref (a 2), .ref (a 3), .int (L 3 0), .int (L 3 1)])), (a 1, .inl (cI, 6, .inl (L 0))), (a 2, .inl (cI, 6, .inl (L 1))), (a 3, .inl (cI, 60, .inl (L 2)))]
abbrev wX3 (f : Nat → Nat) (n : Nat → Nat) (cI cC cO : ClassId) (S : Mm) (N : Mm) : va_W := [(f 0, .inr (3, [.ref (n 0), .ref (f 1), .ref (f 2), .ref (f 3), .ref (f 4), .int (S 4 0), .int (S 4 1)])), (f 1, .inl (cI, 524, .inl (S 0))), (f 2, .inl (cI, 96, .inl (S 1))), (f 3, .inl (cI, 96, .inl (S 2))), (f 4, .inl (cI, 96, .inl (S 3)))] ++ (wX1 n cI cC cO N)
abbrev wX2 (t : Nat → Nat) (r : Nat → Nat) (cI cC cO : ClassId) (T : Mm) (R : Mm) : va_W := [(t 0, .inr (2, [.ref (t 1), .ref (t 2), .ref (r 0), .int (T 2 0), .int (T 2 1), .int (T 2 2), .int (T 2 3), .int (T 2 4), .int (T 2 5)])), (t 1, .inl (cC, 60, .inl (T 0))), (t 2, .inl (cI, 4, .inl (T 1)))] ++ (wX1 r cI cC cO R)
abbrev wX5 (a : Nat → Nat) (cI cC cO : ClassId) (M : Mm) : va_W := [(a 0, .inr (5, [.ref (a 1), .ref (a 2), .ref (a 3), .ref (a 4), .int (M 12 0), .ref (a 5), .int (M 12 1), .int (M 12 2), .int (M 12 3), .int (M 12 4), .ref (a 6), .ref (a 7), .ref (a 8), .ref (a 9), .ref (a 10), .ref (a 11), .ref (a 12), .int (M 12 5), .int (M 12 6), .int (M 12 7), .int (M 12 8), .int (M 12 9), .int (M 12 10)])), (a 1, .inl (cI, 74, .inl (M 0))), (a 2, .inl (cI, 296, .inl (M 1))), (a 3, .inl (cI, 74, .inl (M 2))), (a 4, .inl (cI, 74, .inl (M 3))), (a 5, .inl (cC, 60, .inl (M 4))), (a 6, .inl (cI, 4, .inl (M 5))), (a 7, .inl (cI, 6, .inl (M 6))), (a 8, .inl (cI, 96, .inl (M 7))), (a 9, .inl (cI, 160, .inl (M 8))), (a 10, .inl (cI, 96, .inl (M 9))), (a 11, .inl (cI, 96, .inl (M 10))), (a 12, .inl (cI, 96, .inl (M 11)))]
theorem qS_mk {D : va_G} {cI cC cO : ClassId} {A : Nat → Prop} {w : va_W} {s t : State} {H : Heap} (ht : t.heap = H) (hW : s.WarmedH t.vm) (hP : va_P D classes w H) (hK : va_K D classes (tysA cI cC cO) s) (hD : va_D A w) : qS D cI cC cO A w t := ⟨by rw [ht]; exact hP, va_K.moved hW.alike hK, hD⟩
/-- an arraycopy that is in range, else nothing -/
def cp {α : Type} (sp dp n : Int32) (n0 n1 : Nat) (x : Option α) : Option α := if (¬ sp < 0) ∧ (¬ dp < 0) ∧ (¬ n < 0) ∧ sp.toNatClampNeg + n.toNatClampNeg ≤ n0 ∧ dp.toNatClampNeg + n.toNatClampNeg ≤ n1 then x else none
theorem cp_ok {α : Type} {sp dp n : Int32} {n0 n1 : Nat} {x : Option α} {r : α} (h : cp sp dp n n0 n1 x = some r) : ((¬ sp < 0) ∧ (¬ dp < 0) ∧ (¬ n < 0) ∧ sp.toNatClampNeg + n.toNatClampNeg ≤ n0 ∧ dp.toNatClampNeg + n.toNatClampNeg ≤ n1) ∧ x = some r := by
  unfold cp at h
  split at h
  · rename_i hc; exact ⟨hc, h⟩
  · cases h
/-- a row filled up to n -/
def fl (f : Nat → Int32) (n : Nat) (v : Int32) : Nat → Int32 := fun j => if j < n then v else f j
theorem lk_ne {x : Int32} {k : Int} (hk : -2147483648 ≤ k ∧ k ≤ 2147483647) (h : ¬ x = Int32.ofInt k) : ¬ k = x.toInt := fun e => h (by rw [e, Int32.ofInt_toInt])
section RT
variable {p : Program} {l : Launch} {e : Env} {R : Room} {s : State} {m : MethodId} {args : Array Value} {below : List Frame} {meth : Method} {c : Code} {H : Heap} {locs : List Loc} {cells slots : Nat}
variable {pc : Nat} {ls : Array Slot} {A : Nat → Prop} {D : va_G} {cI cC cO : ClassId} {w : va_W} {cc : ByteArray} {v : Int32}
theorem rt_i (hx : p.tables.exec = Jvm.exec) (hb : c.code = cc) (hr : meth.sig.returnType = some .int) (hlocks : meth.locks = false) (hS : va_S A s.heap H locs) (hP : va_P D classes w H) (hK : va_K D classes (tysA cI cC cO) s) (hD : va_D A w) (hdg : decode cc pc = .ok (.ireturn, 1)) : W p l e R s m args below meth c H locs cells slots (MQ below (QI D cI cC cO A w v) args s cells slots A) (F0 m pc ls [.int v]) :=
  W.iret (v := v) hx hb hr (fun t ht hW => ⟨⟨v, (), rfl, rfl, qS_mk ht hW hP hK hD⟩, hS.F ht⟩) hS.2.2 hdg hlocks
theorem rt_z (hx : p.tables.exec = Jvm.exec) (hb : c.code = cc) (hr : meth.sig.returnType = some .boolean) (hn : narrow .boolean (.int v) = .int v) (hlocks : meth.locks = false) (hS : va_S A s.heap H locs) (hP : va_P D classes w H) (hK : va_K D classes (tysA cI cC cO) s) (hD : va_D A w) (hdg : decode cc pc = .ok (.ireturn, 1)) : W p l e R s m args below meth c H locs cells slots (MQ below (QI D cI cC cO A w v) args s cells slots A) (F0 m pc ls [.int v]) :=
  W.zret (v := v) hx hb hr hn (fun t ht hW => ⟨⟨v, (), rfl, rfl, qS_mk ht hW hP hK hD⟩, hS.F ht⟩) hS.2.2 hdg hlocks
theorem rt_v (hx : p.tables.exec = Jvm.exec) (hb : c.code = cc) (hr : meth.sig.returnType = none) (hlocks : meth.locks = false) (hS : va_S A s.heap H locs) (hP : va_P D classes w H) (hK : va_K D classes (tysA cI cC cO) s) (hD : va_D A w) (hdg : decode cc pc = .ok (.return_, 1)) : W p l e R s m args below meth c H locs cells slots (MQ below (QV D cI cC cO A w) args s cells slots A) (F0 m pc ls []) :=
  W.vret hx hb hr (fun t ht hW => ⟨⟨(), rfl, trivial, qS_mk ht hW hP hK hD⟩, hS.F ht⟩) hS.2.2 hdg hlocks
end RT

