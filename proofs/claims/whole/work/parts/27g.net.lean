/-! PURE PART: the net of moments: 16 * place + tick, 120 the source; ways: 16 * pipe + tick, 160 + moment (waiting), 256 + place (setting out). G: places G 0 0, pipes G 1 0, of a pipe G 4 from, G 5 to, G 6 time. B: what a way takes, whatever the end. -/
def ns (G : Lay) (e : Nat) : Nat := if e < 160 then (if e / 16 < G 1 0 then 16 * G 4 (e / 16) + e % 16 else 0) else if e < 256 then e - 160 else 120
def nd (G : Lay) (e : Nat) : Nat := if e < 160 then (if e / 16 < G 1 0 ∧ e % 16 + G 6 (e / 16) < 16 then 16 * G 5 (e / 16) + (e % 16 + G 6 (e / 16)) else 0) else if e < 256 then (if e % 16 = 15 then 0 else e - 159) else 16 * (e - 256)
/-- what a way takes where all ends at the tick en -/
def cx (G : Lay) (B : Nat → Nat) (en e : Nat) : Nat := if e < 160 then (if e / 16 < G 1 0 ∧ G 4 (e / 16) ≠ 0 ∧ e % 16 + G 6 (e / 16) ≤ en then B e else 0) else if e < 256 then (if (e - 160) / 16 < G 0 0 ∧ e % 16 < en then B e else 0) else if e - 256 < G 0 0 then B e else 0
def NB (G : Lay) (B : Nat → Nat) : Prop := 1 ≤ G 0 0 ∧ G 0 0 ≤ 6 ∧ G 1 0 ≤ 10 ∧ (∀ k, k < G 1 0 → G 4 k < G 0 0 ∧ G 5 k < G 0 0 ∧ G 4 k ≠ G 5 k ∧ 1 ≤ G 6 k ∧ G 6 k ≤ 4) ∧ (∀ e, B e ≤ 1000000) ∧ (∀ e, e < 160 → B e ≤ 10) ∧ B 256 ≤ 21
def fv (f : Nat → Nat) : Nat → Int := fun e => ((f e : Nat) : Int)
/-- a stream that loses nothing but at the exit -/
def Fe (G : Lay) (B : Nat → Nat) (en : Nat) (f : Nat → Nat) : Prop := (∀ e, e < 262 → f e ≤ cx G B en e) ∧ ∀ v, 16 ≤ v → v < 96 → dv (ns G) (nd G) (fv f) v = 0
theorem ns_lt {G : Lay} {B : Nat → Nat} (h : NB G B) {e : Nat} (he : e < 262) : ns G e < 128 := by
  unfold ns
  split
  · split
    · have := (h.2.2.2.1 (e / 16) (by omega)).1
      have := h.2.1
      omega
    · omega
  · split <;> omega
theorem nd_lt {G : Lay} {B : Nat → Nat} (h : NB G B) {e : Nat} (he : e < 262) : nd G e < 128 := by
  unfold nd
  split
  · split
    · rename_i h1 h2
      have := (h.2.2.2.1 (e / 16) h2.1).2.1
      have := h.2.1
      omega
    · omega
  · split
    · split <;> omega
    · omega
theorem cx_le {G : Lay} {B : Nat → Nat} {en e : Nat} : cx G B en e ≤ B e := by
  unfold cx
  split
  · split <;> omega
  · split <;> split <;> omega
/-- one step more: along a way that takes more, or back where something goes; the way's number: 2 e along e, 2 e + 1 back -/
def sp (G : Lay) (B : Nat → Nat) (en : Nat) (f : Nat → Nat) (x w v : Nat) : Prop := w / 2 < 262 ∧ ((w % 2 = 0 ∧ ns G (w / 2) = x ∧ nd G (w / 2) = v ∧ f (w / 2) < cx G B en (w / 2)) ∨ (w % 2 = 1 ∧ nd G (w / 2) = x ∧ ns G (w / 2) = v ∧ 0 < f (w / 2)))
/-- reached: T 0 the moments in their order, T 1 a moment's rank, T 2 by which step, T 3 from where -/
def RE (q : Nat) (T : Lay) (v : Nat) : Prop := v = 120 ∨ ∃ i, i < q ∧ T 0 i = v
def SR (G : Lay) (B : Nat → Nat) (en : Nat) (f : Nat → Nat) (q : Nat) (T : Lay) : Prop := T 1 120 = 0 ∧ ∀ i, i < q → T 0 i < 96 ∧ T 0 i % 16 ≤ en ∧ T 0 i / 16 < G 0 0 ∧ T 1 (T 0 i) = i + 1 ∧ T 1 (T 3 (T 0 i)) < i + 1 ∧ RE q T (T 3 (T 0 i)) ∧ sp G B en f (T 3 (T 0 i)) (T 2 (T 0 i)) (T 0 i)
def tT (q : Nat) (T : Lay) (x w v : Nat) : Lay := fun i j => if i = 0 ∧ j = q then v else if i = 1 ∧ j = v then q + 1 else if i = 2 ∧ j = v then w else if i = 3 ∧ j = v then x else T i j
def EX (q : Nat) (T : Lay) (q' : Nat) (T' : Lay) : Prop := q ≤ q' ∧ ∀ i, i < q → T' 0 i = T 0 i
theorem EX.refl (q : Nat) (T : Lay) : EX q T q T := ⟨Nat.le_refl _, fun _ _ => rfl⟩
theorem EX.trans {q q1 q2 : Nat} {T T1 T2 : Lay} (h : EX q T q1 T1) (h' : EX q1 T1 q2 T2) : EX q T q2 T2 := ⟨Nat.le_trans h.1 h'.1, fun i hi => by rw [h'.2 i (Nat.lt_of_lt_of_le hi h.1), h.2 i hi]⟩
theorem EX.re {q q1 : Nat} {T T1 : Lay} (h : EX q T q1 T1) {v : Nat} (hv : RE q T v) : RE q1 T1 v := by
  rcases hv with hv | ⟨i, hi, hv⟩
  · exact Or.inl hv
  · exact Or.inr ⟨i, Nat.lt_of_lt_of_le hi h.1, by rw [h.2 i hi]; exact hv⟩
theorem tT_0q (q : Nat) (T : Lay) (x w v : Nat) : tT q T x w v 0 q = v := if_pos ⟨rfl, rfl⟩
theorem tT_0 {q : Nat} (T : Lay) (x w v : Nat) {i : Nat} (h : i ≠ q) : tT q T x w v 0 i = T 0 i := by
  unfold tT
  rw [if_neg (fun z => h z.2), if_neg (fun z => by omega), if_neg (fun z => by omega), if_neg (fun z => by omega)]
theorem tT_1 (q : Nat) (T : Lay) (x w v : Nat) : tT q T x w v 1 v = q + 1 ∧ tT q T x w v 2 v = w ∧ tT q T x w v 3 v = x := by
  refine ⟨?_, ?_, ?_⟩
  · unfold tT; rw [if_neg (fun z => by omega), if_pos ⟨rfl, rfl⟩]
  · unfold tT; rw [if_neg (fun z => by omega), if_neg (fun z => by omega), if_pos ⟨rfl, rfl⟩]
  · unfold tT; rw [if_neg (fun z => by omega), if_neg (fun z => by omega), if_neg (fun z => by omega), if_pos ⟨rfl, rfl⟩]
theorem tT_n {q : Nat} (T : Lay) (x w : Nat) {v i j : Nat} (hi : i ≠ 0) (h : j ≠ v) : tT q T x w v i j = T i j := by
  unfold tT
  rw [if_neg (fun z => hi z.1), if_neg (fun z => h z.2), if_neg (fun z => h z.2), if_neg (fun z => h z.2)]
theorem EX_push (q : Nat) (T : Lay) (x w v : Nat) : EX q T (q + 1) (tT q T x w v) := ⟨by omega, fun i hi => tT_0 T x w v (by omega)⟩
theorem RE_push (q : Nat) (T : Lay) (x w v : Nat) : RE (q + 1) (tT q T x w v) v := Or.inr ⟨q, by omega, tT_0q q T x w v⟩
theorem RE_back {q : Nat} {T : Lay} {x w v u : Nat} (h : RE (q + 1) (tT q T x w v) u) (hu : u ≠ v) : RE q T u := by
  rcases h with h | ⟨i, hi, h⟩
  · exact Or.inl h
  · by_cases e : i = q
    · rw [e, tT_0q] at h
      exact absurd h.symm hu
    · exact Or.inr ⟨i, by omega, by rw [tT_0 T x w v e] at h; exact h⟩
theorem SR_rank {G : Lay} {B : Nat → Nat} {en : Nat} {f : Nat → Nat} {q : Nat} {T : Lay} (h : SR G B en f q T) {v : Nat} (hv : RE q T v) : T 1 v ≤ q := by
  rcases hv with hv | ⟨i, hi, hv⟩
  · rw [hv, h.1]; omega
  · rw [← hv, (h.2 i hi).2.2.2.1]; omega
theorem SR_push {G : Lay} {B : Nat → Nat} {en : Nat} {f : Nat → Nat} {q : Nat} {T : Lay} {x w v : Nat} (h : SR G B en f q T) (h1 : v < 96) (h2 : v % 16 ≤ en) (h3 : v / 16 < G 0 0) (hv : ¬ RE q T v) (hx : RE q T x) (hs : sp G B en f x w v) : SR G B en f (q + 1) (tT q T x w v) := by
  have hxv : x ≠ v := fun z => hv (z ▸ hx)
  refine ⟨by rw [tT_n T x w (by omega) (by omega)]; exact h.1, fun i hi => ?_⟩
  by_cases e : i = q
  · rw [e, tT_0q, (tT_1 q T x w v).1, (tT_1 q T x w v).2.1, (tT_1 q T x w v).2.2, tT_n T x w (by omega) hxv]
    exact ⟨h1, h2, h3, rfl, Nat.lt_succ_of_le (SR_rank h hx), (EX_push q T x w v).re hx, hs⟩
  · obtain ⟨g1, g2, g3, g4, g5, g6, g7⟩ := h.2 i (by omega)
    have hi2 : T 0 i ≠ v := fun z => hv (Or.inr ⟨i, by omega, z⟩)
    have hi3 : T 3 (T 0 i) ≠ v := fun z => hv (z ▸ g6)
    rw [tT_0 T x w v e, tT_n T x w (by omega) hi2, tT_n T x w (by omega) hi2, tT_n T x w (by omega) hi2, tT_n T x w (by omega) hi3]
    exact ⟨g1, g2, g3, g4, g5, (EX_push q T x w v).re g6, g7⟩
/-- all steps from a moment lead to what is reached -/
def CLv (G : Lay) (B : Nat → Nat) (en : Nat) (f : Nat → Nat) (q : Nat) (T : Lay) (x : Nat) : Prop := ∀ w v, sp G B en f x w v → RE q T v
theorem CLv.ex {G : Lay} {B : Nat → Nat} {en : Nat} {f : Nat → Nat} {q q1 : Nat} {T T1 : Lay} {x : Nat} (h : CLv G B en f q T x) (hx : EX q T q1 T1) : CLv G B en f q1 T1 x := fun w v hs => hx.re (h w v hs)
/-- a search that found no more -/
def FIN (G : Lay) (B : Nat → Nat) (en : Nat) (f : Nat → Nat) (q : Nat) (T : Lay) : Prop := SR G B en f q T ∧ (∀ i, i < q → 16 ≤ T 0 i) ∧ CLv G B en f q T 120 ∧ ∀ i, i < q → CLv G B en f q T (T 0 i)
abbrev cI_ (G : Lay) (B : Nat → Nat) (en : Nat) : Nat → Int := fun e => ((cx G B en e : Nat) : Int)
abbrev Nn : Nat → Prop := fun v => 16 ≤ v ∧ v < 96
theorem Fe.fea {G : Lay} {B : Nat → Nat} {en : Nat} {f : Nat → Nat} (h : Fe G B en f) : Fea (ns G) (nd G) (cI_ G B en) Nn (fv f) := by
  refine ⟨fun e he => ⟨?_, ?_⟩, fun v hv => h.2 v hv.1 hv.2⟩
  · show (0 : Int) ≤ ((f e : Nat) : Int); omega
  · have := h.1 e he
    show ((f e : Nat) : Int) ≤ ((cx G B en e : Nat) : Int); omega
theorem FIN.cut {G : Lay} {B : Nat → Nat} {en : Nat} {f : Nat → Nat} {q : Nat} {T : Lay} (h : FIN G B en f q T) : Cut Nn (RE q T) := by
  refine ⟨Or.inl rfl, fun v hv => ?_⟩
  rcases hv with hv | ⟨i, hi, hv⟩
  · exact Or.inl hv
  · have h1 := h.2.1 i hi
    have h2 := (h.1.2 i hi).1
    rw [hv] at h1 h2
    exact Or.inr ⟨by omega, h1, h2⟩
theorem FIN.cl {G : Lay} {B : Nat → Nat} {en : Nat} {f : Nat → Nat} {q : Nat} {T : Lay} (h : FIN G B en f q T) {x : Nat} (hx : RE q T x) : CLv G B en f q T x := by
  rcases hx with hx | ⟨i, hi, hx⟩
  · rw [hx]; exact h.2.2.1
  · rw [← hx]; exact h.2.2.2 i hi
theorem sp_f {G : Lay} {B : Nat → Nat} {en : Nat} {f : Nat → Nat} {e : Nat} (he : e < 262) (h : f e < cx G B en e) : sp G B en f (ns G e) (2 * e) (nd G e) := by
  have e1 : 2 * e / 2 = e := by omega
  have e2 : 2 * e % 2 = 0 := by omega
  unfold sp
  rw [e1, e2]
  exact ⟨he, Or.inl ⟨rfl, rfl, rfl, h⟩⟩
theorem sp_b {G : Lay} {B : Nat → Nat} {en : Nat} {f : Nat → Nat} {e : Nat} (he : e < 262) (h : 0 < f e) : sp G B en f (nd G e) (2 * e + 1) (ns G e) := by
  have e1 : (2 * e + 1) / 2 = e := by omega
  have e2 : (2 * e + 1) % 2 = 1 := by omega
  unfold sp
  rw [e1, e2]
  exact ⟨he, Or.inr ⟨rfl, rfl, rfl, h⟩⟩
theorem FIN.tig {G : Lay} {B : Nat → Nat} {en : Nat} {f : Nat → Nat} {q : Nat} {T : Lay} (h : FIN G B en f q T) (hf : Fe G B en f) : Tig (ns G) (nd G) (cI_ G B en) (RE q T) (fv f) := by
  refine fun e he => ⟨fun ha hb => ?_, fun ha hb => ?_⟩
  · have h1 := hf.1 e he
    show ((f e : Nat) : Int) = ((cx G B en e : Nat) : Int)
    by_cases c : f e < cx G B en e
    · exact absurd (h.cl ha _ _ (sp_f he c)) hb
    · omega
  · show ((f e : Nat) : Int) = 0
    by_cases c : 0 < f e
    · exact absurd (h.cl hb _ _ (sp_b he c)) ha
    · omega
theorem FIN.lea {G : Lay} {B : Nat → Nat} {en : Nat} {f : Nat → Nat} {q : Nat} {T : Lay} (h : FIN G B en f q T) : Lea (ns G) (nd G) (cI_ G B en) (RE q T) (fv f) := by
  intro X h0 hf hb v hv
  have key : ∀ r i, i < r → i < q → X (T 0 i) := by
    intro r
    induction r with
    | zero => intro i hi; omega
    | succ r ih =>
      intro i hi hq
      obtain ⟨g1, g2, g3, g4, g5, g6, g7⟩ := h.1.2 i hq
      have hX : X (T 3 (T 0 i)) := by
        rcases g6 with g6 | ⟨j, hj, g6⟩
        · rw [g6]; exact h0
        · rw [← g6] at g5 ⊢
          rw [(h.1.2 j hj).2.2.2.1] at g5
          exact ih j (by omega) hj
      rcases g7 with ⟨p0, ⟨p1, p2, p3, p4⟩ | ⟨p1, p2, p3, p4⟩⟩
      · rw [← p3]
        refine hf _ p0 (by rw [p2]; exact hX) ?_
        show ((f _ : Nat) : Int) < ((cx G B en _ : Nat) : Int)
        omega
      · rw [← p3]
        refine hb _ p0 (by rw [p2]; exact hX) ?_
        show (0 : Int) < ((f _ : Nat) : Int)
        omega
  rcases hv with hv | ⟨i, hi, hv⟩
  · rw [hv]; exact h0
  · rw [← hv]; exact key (i + 1) i (by omega) hi
/-- two searches that found no more, in two streams: the same value, the same moments -/
theorem fin_val {G : Lay} {B : Nat → Nat} {en : Nat} {f1 f2 : Nat → Nat} {q1 q2 : Nat} {T1 T2 : Lay} (hN : NB G B) (e1 : Fe G B en f1) (e2 : Fe G B en f2) (h1 : FIN G B en f1 q1 T1) (h2 : FIN G B en f2 q2 T2) : dv (ns G) (nd G) (fv f1) 120 = dv (ns G) (nd G) (fv f2) 120 :=
  max_eq (fun _ he => ns_lt hN he) (fun _ he => nd_lt hN he) e1.fea e2.fea h1.cut h2.cut (h1.tig e1) (h2.tig e2)
theorem fin_sub {G : Lay} {B : Nat → Nat} {en : Nat} {f1 f2 : Nat → Nat} {q1 q2 : Nat} {T1 T2 : Lay} (hN : NB G B) (e1 : Fe G B en f1) (e2 : Fe G B en f2) (h1 : FIN G B en f1 q1 T1) (h2 : FIN G B en f2 q2 T2) : ∀ v, RE q2 T2 v → RE q1 T1 v :=
  lea_sub (fun _ he => ns_lt hN he) (fun _ he => nd_lt hN he) e1.fea e2.fea h1.cut h2.cut (h1.tig e1) (h2.tig e2) h2.lea
theorem fin_re {G : Lay} {B : Nat → Nat} {en : Nat} {f1 f2 : Nat → Nat} {q1 q2 : Nat} {T1 T2 : Lay} (hN : NB G B) (e1 : Fe G B en f1) (e2 : Fe G B en f2) (h1 : FIN G B en f1 q1 T1) (h2 : FIN G B en f2 q2 T2) (v : Nat) : RE q1 T1 v ↔ RE q2 T2 v :=
  ⟨fin_sub hN e2 e1 h2 h1 v, fin_sub hN e1 e2 h1 h2 v⟩
/-- no stream brings more than this -/
theorem val_max {G : Lay} {B : Nat → Nat} {en : Nat} {f : Nat → Nat} (hN : NB G B) (hen : en ≤ 15) (hf : Fe G B en f) : dv (ns G) (nd G) (fv f) 120 ≤ 1621 := by
  have hS : Cut Nn (fun v => v = 120 ∨ (16 ≤ v ∧ v < 96)) := ⟨Or.inl rfl, fun v hv => by
    rcases hv with hv | hv
    · exact Or.inl hv
    · exact Or.inr ⟨by omega, hv⟩⟩
  have h1 : dv (ns G) (nd G) (fv f) 120 ≤ cc_ (ns G) (nd G) (cI_ G B en) (fun v => v = 120 ∨ (16 ≤ v ∧ v < 96)) := val_le (fun _ he => ns_lt hN he) (fun _ he => nd_lt hN he) hS hf.fea
  have h2 : cc_ (ns G) (nd G) (cI_ G B en) (fun v => v = 120 ∨ (16 ≤ v ∧ v < 96)) ≤ sm 262 (fun e => if e < 160 then 10 else if e = 256 then 21 else 0) := by
    unfold cc_
    refine sm_le (fun e he => ?_)
    have hb := cx_le (G := G) (B := B) (en := en) (e := e)
    by_cases ha : (ns G e = 120 ∨ (16 ≤ ns G e ∧ ns G e < 96))
    · by_cases hd : (nd G e = 120 ∨ (16 ≤ nd G e ∧ nd G e < 96))
      · rw [ic_1 (S := fun v => v = 120 ∨ (16 ≤ v ∧ v < 96)) (v := nd G e) hd]
        simp only [Int.sub_self, Int.mul_zero]
        split
        · omega
        · split <;> omega
      · rw [ic_0 (S := fun v => v = 120 ∨ (16 ≤ v ∧ v < 96)) (v := nd G e) hd, ic_1 (S := fun v => v = 120 ∨ (16 ≤ v ∧ v < 96)) (v := ns G e) ha]
        simp only [Int.sub_zero, Int.mul_one]
        show ((cx G B en e : Nat) : Int) ≤ _
        by_cases c1 : e < 160
        · rw [if_pos c1]
          have := hN.2.2.2.2.2.1 e c1
          omega
        · rw [if_neg c1]
          by_cases c2 : e = 256
          · rw [if_pos c2]
            have := hN.2.2.2.2.2.2
            rw [c2] at hb ⊢
            omega
          · rw [if_neg c2]
            have hz : cx G B en e = 0 := by
              unfold ns at ha
              unfold nd at hd
              unfold cx
              rw [if_neg c1] at ha hd ⊢
              by_cases c3 : e < 256
              · rw [if_pos c3] at ha hd ⊢
                by_cases c4 : e % 16 = 15
                · rw [if_neg (fun z => by omega)]
                · rw [if_neg c4] at hd
                  omega
              · rw [if_neg c3] at ha hd ⊢
                omega
            omega
    · rw [ic_0 (S := fun v => v = 120 ∨ (16 ≤ v ∧ v < 96)) (v := ns G e) ha]
      simp only [Int.zero_mul, Int.mul_zero]
      split
      · omega
      · split <;> omega
  have h3 : sm 262 (fun e => if e < 160 then 10 else if e = 256 then 21 else 0) = 1621 := by decide +kernel
  omega
/-! a unit more, or several, along what was reached -/
def sa (a w : Nat) (f : Nat → Nat) : Nat → Nat := va_up f (w / 2) (if w % 2 = 0 then f (w / 2) + a else f (w / 2) - a)
def ag (a : Nat) (T : Lay) : Nat → Nat → (Nat → Nat) → Nat → Nat
  | 0, _, f => f
  | r + 1, v, f => if v = 120 then f else ag a T r (T 3 v) (sa a (T 2 v) f)
/-- what a step takes -/
def rs (G : Lay) (B : Nat → Nat) (en : Nat) (f : Nat → Nat) (w : Nat) : Nat := if w % 2 = 0 then cx G B en (w / 2) - f (w / 2) else f (w / 2)
def PA (G : Lay) (B : Nat → Nat) (en : Nat) (f : Nat → Nat) (a : Nat) (T : Lay) : Nat → Nat → Prop
  | 0, _ => True
  | r + 1, v => v = 120 ∨ (a ≤ rs G B en f (T 2 v) ∧ PA G B en f a T r (T 3 v))
theorem sp_rs {G : Lay} {B : Nat → Nat} {en : Nat} {f : Nat → Nat} {x w v : Nat} (h : sp G B en f x w v) : 1 ≤ rs G B en f w := by
  unfold rs
  rcases h with ⟨-, ⟨h1, -, -, h2⟩ | ⟨h1, -, -, h2⟩⟩
  · rw [if_pos h1]; omega
  · rw [if_neg (by omega)]; omega
theorem sa_pu {f : Nat → Nat} {a w : Nat} (h : w % 2 = 1 → a ≤ f (w / 2)) : fv (sa a w f) = pu (fv f) (w / 2) (if w % 2 = 0 then (a : Int) else -(a : Int)) := by
  funext e
  show ((sa a w f e : Nat) : Int) = if e = w / 2 then ((f e : Nat) : Int) + (if w % 2 = 0 then (a : Int) else -(a : Int)) else ((f e : Nat) : Int)
  unfold sa
  by_cases c : e = w / 2
  · rw [c, va_up_self, if_pos rfl]
    by_cases d : w % 2 = 0
    · rw [if_pos d, if_pos d]; omega
    · rw [if_neg d, if_neg d]
      have := h (by omega)
      omega
  · rw [va_up_ne _ _ c, if_neg c]
theorem sa_dv {G : Lay} {B : Nat → Nat} {en : Nat} {f f0 : Nat → Nat} {a x w v : Nat} (h : sp G B en f0 x w v) (e : f (w / 2) = f0 (w / 2)) (ha : a ≤ rs G B en f0 w) (u : Nat) : dv (ns G) (nd G) (fv (sa a w f)) u = dv (ns G) (nd G) (fv f) u + (a : Int) * ((if x = u then 1 else 0) - (if v = u then 1 else 0)) := by
  unfold rs at ha
  rcases h with ⟨h0, ⟨h1, h2, h3, -⟩ | ⟨h1, h2, h3, -⟩⟩
  · rw [sa_pu (fun z => by omega), dv_pu _ h0, if_pos h1, h2, h3]
  · rw [if_neg (by omega)] at ha
    rw [sa_pu (fun _ => by rw [e]; exact ha), dv_pu _ h0, if_neg (by omega), h2, h3, Int.neg_mul, ← Int.mul_neg, Int.neg_sub]
theorem aug {G : Lay} {B : Nat → Nat} {en : Nat} {f0 : Nat → Nat} {q a : Nat} {T : Lay} (h : SR G B en f0 q T) : ∀ (r v : Nat) (f : Nat → Nat), RE q T v → T 1 v ≤ r → PA G B en f0 a T r v → (∀ e, e < 262 → T 1 (ns G e) ≤ T 1 v → T 1 (nd G e) ≤ T 1 v → f e = f0 e) → (∀ e, e < 262 → f e ≤ cx G B en e) → (∀ e, e < 262 → ag a T r v f e ≤ cx G B en e) ∧ (∀ e, ag a T r v f e ≤ f e + a * r) ∧ ∀ u, dv (ns G) (nd G) (fv (ag a T r v f)) u = dv (ns G) (nd G) (fv f) u + (a : Int) * ((if 120 = u then 1 else 0) - (if v = u then 1 else 0)) := by
  intro r
  induction r with
  | zero =>
    intro v f hv hr _ _ hc
    have e : v = 120 := by
      rcases hv with hv | ⟨i, hi, hv⟩
      · exact hv
      · rw [← hv, (h.2 i hi).2.2.2.1] at hr; omega
    refine ⟨hc, fun e => Nat.le_add_right _ _, fun u => ?_⟩
    rw [e, Int.sub_self, Int.mul_zero, Int.add_zero]
    rfl
  | succ r ih =>
    intro v f hv hr hp he hc
    by_cases e : v = 120
    · have e2 : ag a T (r + 1) v f = f := if_pos e
      rw [e2, e]
      refine ⟨hc, fun e => Nat.le_add_right _ _, fun u => ?_⟩
      rw [Int.sub_self, Int.mul_zero, Int.add_zero]
    · have e2 : ag a T (r + 1) v f = ag a T r (T 3 v) (sa a (T 2 v) f) := if_neg e
      rw [e2]
      rcases hp with hp | ⟨p1, p2⟩
      · exact absurd hp e
      rcases hv with hv | ⟨i, hi, hv⟩
      · exact absurd hv e
      obtain ⟨g1, g2, g3, g4, g5, g6, g7⟩ := h.2 i hi
      rw [hv] at g1 g2 g3 g4 g5 g6 g7
      have hw : T 2 v / 2 < 262 := g7.1
      have hend : T 1 (ns G (T 2 v / 2)) ≤ T 1 v ∧ T 1 (nd G (T 2 v / 2)) ≤ T 1 v := by
        rcases g7 with ⟨-, ⟨-, s2, s3, -⟩ | ⟨-, s2, s3, -⟩⟩
        · rw [s2, s3]; omega
        · rw [s2, s3]; omega
      have hfw : f (T 2 v / 2) = f0 (T 2 v / 2) := he _ hw hend.1 hend.2
      have htop : T 1 (ns G (T 2 v / 2)) = T 1 v ∨ T 1 (nd G (T 2 v / 2)) = T 1 v := by
        rcases g7 with ⟨-, ⟨-, s2, s3, -⟩ | ⟨-, s2, s3, -⟩⟩
        · exact Or.inr (by rw [s3])
        · exact Or.inl (by rw [s3])
      obtain ⟨i1, i2, i3⟩ := ih (T 3 v) (sa a (T 2 v) f) g6 (by omega) p2 (fun e' he' q1 q2 => by
        have hne : e' ≠ T 2 v / 2 := by
          intro z
          rw [z] at q1 q2
          rcases htop with t | t <;> omega
        unfold sa
        rw [va_up_ne _ _ hne]
        exact he e' he' (by omega) (by omega)) (fun e' he' => by
        unfold sa
        by_cases z : e' = T 2 v / 2
        · rw [z, va_up_self, hfw]
          unfold rs at p1
          have hc' := hc _ hw
          rw [hfw] at hc'
          by_cases d : T 2 v % 2 = 0
          · rw [if_pos d] at p1 ⊢
            have : f0 (T 2 v / 2) < cx G B en (T 2 v / 2) := by
              rcases g7 with ⟨-, ⟨-, -, -, s4⟩ | ⟨s1, -, -, -⟩⟩
              · exact s4
              · omega
            omega
          · rw [if_neg d]; omega
        · rw [va_up_ne _ _ z]; exact hc e' he')
      refine ⟨i1, fun e' => ?_, fun u => ?_⟩
      · have j1 := i2 e'
        have j2 : sa a (T 2 v) f e' ≤ f e' + a := by
          unfold sa
          by_cases z : e' = T 2 v / 2
          · rw [z, va_up_self]
            split <;> omega
          · rw [va_up_ne _ _ z]; omega
        rw [Nat.mul_succ]
        omega
      · rw [i3 u, sa_dv g7 hfw p1 u, Int.add_assoc, ← Int.mul_add]
        congr 2
        split <;> split <;> split <;> omega
/-- the whole road from a moment of the exit -/
theorem aug_fe {G : Lay} {B : Nat → Nat} {en : Nat} {f : Nat → Nat} {q a v r : Nat} {T : Lay} (hf : Fe G B en f) (h : SR G B en f q T) (hv : RE q T v) (h16 : v < 16) (hr : T 1 v ≤ r) (hp : PA G B en f a T r v) : Fe G B en (ag a T r v f) ∧ (∀ e, ag a T r v f e ≤ f e + a * r) ∧ dv (ns G) (nd G) (fv (ag a T r v f)) 120 = dv (ns G) (nd G) (fv f) 120 + (a : Int) := by
  obtain ⟨h1, h2, h3⟩ := aug h r v f hv hr hp (fun _ _ _ _ => rfl) hf.1
  refine ⟨⟨h1, fun u hu hu2 => ?_⟩, h2, ?_⟩
  · rw [h3 u, hf.2 u hu hu2, if_neg (by omega), if_neg (by omega), Int.sub_self, Int.mul_zero]; rfl
  · rw [h3 120, if_pos rfl, if_neg (by omega), Int.sub_zero, Int.mul_one]
