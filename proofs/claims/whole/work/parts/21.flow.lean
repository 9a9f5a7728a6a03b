/-! PURE PART: streams in a net of ways e < 262 from node to node (nodes below 128, 120 the source): cuts and greatest streams. -/
def sm : Nat → (Nat → Int) → Int
  | 0, _ => 0
  | n + 1, g => sm n g + g n
theorem sm_congr {n : Nat} {g h : Nat → Int} (e : ∀ i, i < n → g i = h i) : sm n g = sm n h := by
  induction n with
  | zero => rfl
  | succ n ih => show sm n g + g n = sm n h + h n; rw [ih (fun i hi => e i (by omega)), e n (by omega)]
theorem sm_add (n : Nat) (g h : Nat → Int) : sm n (fun i => g i + h i) = sm n g + sm n h := by
  induction n with
  | zero => rfl
  | succ n ih => show sm n (fun i => g i + h i) + (g n + h n) = (sm n g + g n) + (sm n h + h n); rw [ih]; omega
theorem sm_mul (n : Nat) (a : Int) (g : Nat → Int) : sm n (fun i => a * g i) = a * sm n g := by
  induction n with
  | zero => show (0 : Int) = a * 0; rw [Int.mul_zero]
  | succ n ih => show sm n (fun i => a * g i) + a * g n = a * (sm n g + g n); rw [ih, Int.mul_add]
theorem sm_0 (n : Nat) : sm n (fun _ => 0) = 0 := by
  induction n with
  | zero => rfl
  | succ n ih => show sm n (fun _ => 0) + 0 = 0; rw [ih]; rfl
theorem sm_le {n : Nat} {g h : Nat → Int} (e : ∀ i, i < n → g i ≤ h i) : sm n g ≤ sm n h := by
  induction n with
  | zero => exact Int.le_refl _
  | succ n ih =>
    have h1 := ih (fun i hi => e i (by omega))
    have h2 := e n (by omega)
    show sm n g + g n ≤ sm n h + h n
    omega
theorem sm_eq_le {n : Nat} {g h : Nat → Int} (e : ∀ i, i < n → g i ≤ h i) (q : sm n g = sm n h) : ∀ i, i < n → g i = h i := by
  induction n with
  | zero => intro i hi; omega
  | succ n ih =>
    have h1 : sm n g ≤ sm n h := sm_le (fun i hi => e i (by omega))
    have h2 := e n (by omega)
    have h3 : sm n g + g n = sm n h + h n := q
    intro i hi
    by_cases hn : i = n
    · rw [hn]; omega
    · exact ih (fun i hi => e i (by omega)) (by omega) i (by omega)
theorem sm_swap (n k : Nat) (g : Nat → Nat → Int) : sm n (fun i => sm k (fun j => g i j)) = sm k (fun j => sm n (fun i => g i j)) := by
  induction n with
  | zero => exact (sm_0 k).symm
  | succ n ih =>
    show sm n (fun i => sm k (fun j => g i j)) + sm k (fun j => g n j) = sm k (fun j => sm n (fun i => g i j) + g n j)
    rw [ih, ← sm_add]
theorem sm_one (n : Nat) (g : Nat → Int) {v : Nat} (hv : v < n) : sm n (fun i => g i * (if v = i then 1 else 0)) = g v := by
  induction n with
  | zero => omega
  | succ n ih =>
    show sm n (fun i => g i * (if v = i then 1 else 0)) + g n * (if v = n then 1 else 0) = g v
    by_cases h : v = n
    · rw [if_pos h, Int.mul_one, sm_congr (h := fun _ => 0) (fun i hi => by rw [if_neg (by omega), Int.mul_zero]), sm_0, h]
      omega
    · rw [if_neg h, Int.mul_zero, ih (by omega)]
      omega
section FLOW
variable {src dst : Nat → Nat} {cap f f1 f2 : Nat → Int} {S S1 S2 : Nat → Prop}
/-- what leaves a node, less what comes to it -/
def dv (src dst : Nat → Nat) (f : Nat → Int) (v : Nat) : Int := sm 262 (fun e => f e * ((if src e = v then 1 else 0) - (if dst e = v then 1 else 0)))
/-- 1 in a set -/
noncomputable def ic (S : Nat → Prop) (v : Nat) : Int := haveI := Classical.propDecidable (S v); if S v then 1 else 0
theorem ic_1 {v : Nat} (h : S v) : ic S v = 1 := by unfold ic; rw [if_pos h]
theorem ic_0 {v : Nat} (h : ¬ S v) : ic S v = 0 := by unfold ic; rw [if_neg h]
theorem dv_sum (hs : ∀ e, e < 262 → src e < 128) (hd : ∀ e, e < 262 → dst e < 128) : sm 128 (fun v => ic S v * dv src dst f v) = sm 262 (fun e => f e * (ic S (src e) - ic S (dst e))) := by
  have h1 : sm 128 (fun v => ic S v * dv src dst f v) = sm 128 (fun v => sm 262 (fun e => ic S v * (f e * ((if src e = v then 1 else 0) - (if dst e = v then 1 else 0))))) := sm_congr (fun v _ => by unfold dv; rw [sm_mul])
  rw [h1, sm_swap]
  refine sm_congr (fun e he => ?_)
  have h2 : ∀ v, ic S v * (f e * ((if src e = v then 1 else 0) - (if dst e = v then 1 else 0))) = f e * (ic S v * (if src e = v then 1 else 0)) + (- f e) * (ic S v * (if dst e = v then 1 else 0)) := by
    intro v
    by_cases a : src e = v <;> by_cases b : dst e = v <;> simp only [a, b, if_true, if_false, Int.mul_one, Int.mul_zero, Int.sub_zero, Int.zero_sub, Int.sub_self, Int.neg_mul, Int.add_zero, Int.zero_add, Int.mul_neg] <;> (first | rfl | (rw [Int.mul_comm]; try omega) | omega)
  rw [sm_congr (fun v _ => h2 v), sm_add, sm_mul, sm_mul, sm_one 128 (ic S) (hs e he), sm_one 128 (ic S) (hd e he), Int.mul_sub, Int.neg_mul]
  omega
/-- a stream that loses nothing at the nodes of N, within its bounds -/
def Fea (src dst : Nat → Nat) (cap : Nat → Int) (N : Nat → Prop) (f : Nat → Int) : Prop := (∀ e, e < 262 → 0 ≤ f e ∧ f e ≤ cap e) ∧ ∀ v, N v → dv src dst f v = 0
/-- a set with the source, of nodes of N besides -/
def Cut (N : Nat → Prop) (S : Nat → Prop) : Prop := S 120 ∧ ∀ v, S v → v = 120 ∨ (v < 128 ∧ N v)
theorem val_cut {N : Nat → Prop} (hs : ∀ e, e < 262 → src e < 128) (hd : ∀ e, e < 262 → dst e < 128) (hC : Cut N S) (hf : ∀ v, N v → dv src dst f v = 0) : dv src dst f 120 = sm 262 (fun e => f e * (ic S (src e) - ic S (dst e))) := by
  rw [← dv_sum hs hd, ← sm_one 128 (fun v => dv src dst f v) (v := 120) (by omega)]
  refine sm_congr (fun v hv => ?_)
  by_cases h : 120 = v
  · rw [if_pos h, ← h, ic_1 hC.1, Int.mul_one, Int.one_mul]
  · rw [if_neg h, Int.mul_zero]
    by_cases hS : S v
    · rcases hC.2 v hS with h2 | h2
      · exact absurd h2.symm h
      · rw [hf v h2.2, Int.mul_zero]
    · rw [ic_0 hS, Int.zero_mul]
/-- what a cut lets through at most -/
noncomputable def cc_ (src dst : Nat → Nat) (cap : Nat → Int) (S : Nat → Prop) : Int := sm 262 (fun e => cap e * (ic S (src e) * (1 - ic S (dst e))))
theorem term_le {x k : Int} {a b : Nat} (h0 : 0 ≤ x) (h1 : x ≤ k) : x * (ic S a - ic S b) ≤ k * (ic S a * (1 - ic S b)) := by
  by_cases ha : S a <;> by_cases hb : S b
  · rw [ic_1 ha, ic_1 hb]; simp
  · rw [ic_1 ha, ic_0 hb]; simp; exact h1
  · rw [ic_0 ha, ic_1 hb]; simp; omega
  · rw [ic_0 ha, ic_0 hb]; simp
theorem val_le {N : Nat → Prop} (hs : ∀ e, e < 262 → src e < 128) (hd : ∀ e, e < 262 → dst e < 128) (hC : Cut N S) (hf : Fea src dst cap N f) : dv src dst f 120 ≤ cc_ src dst cap S := by
  rw [val_cut hs hd hC hf.2]
  exact sm_le (fun e he => term_le (hf.1 e he).1 (hf.1 e he).2)
/-- nothing more can leave the set -/
def Tig (src dst : Nat → Nat) (cap : Nat → Int) (S : Nat → Prop) (f : Nat → Int) : Prop := ∀ e, e < 262 → (S (src e) → ¬ S (dst e) → f e = cap e) ∧ (¬ S (src e) → S (dst e) → f e = 0)
theorem val_tig {N : Nat → Prop} (hs : ∀ e, e < 262 → src e < 128) (hd : ∀ e, e < 262 → dst e < 128) (hC : Cut N S) (hf : ∀ v, N v → dv src dst f v = 0) (hT : Tig src dst cap S f) : dv src dst f 120 = cc_ src dst cap S := by
  rw [val_cut hs hd hC hf]
  refine sm_congr (fun e he => ?_)
  by_cases ha : S (src e) <;> by_cases hb : S (dst e)
  · rw [ic_1 ha, ic_1 hb]; simp
  · rw [ic_1 ha, ic_0 hb, (hT e he).1 ha hb]; simp
  · rw [ic_0 ha, ic_1 hb, (hT e he).2 ha hb]; simp
  · rw [ic_0 ha, ic_0 hb]; simp
theorem tig_of {N : Nat → Prop} (hs : ∀ e, e < 262 → src e < 128) (hd : ∀ e, e < 262 → dst e < 128) (hC : Cut N S) (hf : Fea src dst cap N f) (hv : dv src dst f 120 = cc_ src dst cap S) : Tig src dst cap S f := by
  rw [val_cut hs hd hC hf.2] at hv
  have h := sm_eq_le (fun e he => term_le (S := S) (a := src e) (b := dst e) (hf.1 e he).1 (hf.1 e he).2) hv
  intro e he
  have h1 := h e he
  refine ⟨fun ha hb => ?_, fun ha hb => ?_⟩
  · rw [ic_1 ha, ic_0 hb] at h1; simp at h1; exact h1
  · rw [ic_0 ha, ic_1 hb] at h1; simp at h1; omega
/-- two greatest streams bring as much -/
theorem max_eq {N : Nat → Prop} (hs : ∀ e, e < 262 → src e < 128) (hd : ∀ e, e < 262 → dst e < 128) (h1 : Fea src dst cap N f1) (h2 : Fea src dst cap N f2) (c1 : Cut N S1) (c2 : Cut N S2) (t1 : Tig src dst cap S1 f1) (t2 : Tig src dst cap S2 f2) : dv src dst f1 120 = dv src dst f2 120 := by
  have e1 := val_tig hs hd c1 h1.2 t1
  have e2 := val_tig hs hd c2 h2.2 t2
  have g1 := val_le hs hd c2 h1
  have g2 := val_le hs hd c1 h2
  omega
/-- a set that is reached step by step: in every set with the source that is closed under the steps -/
def Lea (src dst : Nat → Nat) (cap : Nat → Int) (S : Nat → Prop) (f : Nat → Int) : Prop := ∀ X : Nat → Prop, X 120 → (∀ e, e < 262 → X (src e) → f e < cap e → X (dst e)) → (∀ e, e < 262 → X (dst e) → 0 < f e → X (src e)) → ∀ v, S v → X v
theorem lea_sub {N : Nat → Prop} (hs : ∀ e, e < 262 → src e < 128) (hd : ∀ e, e < 262 → dst e < 128) (h1 : Fea src dst cap N f1) (h2 : Fea src dst cap N f2) (c1 : Cut N S1) (c2 : Cut N S2) (t1 : Tig src dst cap S1 f1) (t2 : Tig src dst cap S2 f2) (l2 : Lea src dst cap S2 f2) : ∀ v, S2 v → S1 v := by
  have e1 := val_tig hs hd c1 h1.2 t1
  have e3 := max_eq hs hd h1 h2 c1 c2 t1 t2
  have t := tig_of hs hd c1 h2 (by rw [← e3]; exact e1)
  refine l2 S1 c1.1 (fun e he hx hc => ?_) (fun e he hx hc => ?_)
  · by_cases hb : S1 (dst e)
    · exact hb
    · have := (t e he).1 hx hb; omega
  · by_cases hb : S1 (src e)
    · exact hb
    · have := (t e he).2 hb hx; omega
/-- a more of a goes by one way -/
def pu (f : Nat → Int) (e : Nat) (a : Int) : Nat → Int := fun x => if x = e then f x + a else f x
theorem dv_pu (f : Nat → Int) {e : Nat} (he : e < 262) (a : Int) (v : Nat) : dv src dst (pu f e a) v = dv src dst f v + a * ((if src e = v then 1 else 0) - (if dst e = v then 1 else 0)) := by
  unfold dv
  have h1 : ∀ x, pu f e a x * ((if src x = v then 1 else 0) - (if dst x = v then 1 else 0)) = f x * ((if src x = v then 1 else 0) - (if dst x = v then 1 else 0)) + (a * ((if src x = v then 1 else 0) - (if dst x = v then 1 else 0))) * (if e = x then 1 else 0) := by
    intro x
    unfold pu
    by_cases h : x = e
    · rw [if_pos h, if_pos h.symm, Int.mul_one, Int.add_mul]
    · have h9 : ¬ e = x := fun z => h z.symm
      rw [if_neg h, if_neg h9, Int.mul_zero, Int.add_zero]
  rw [sm_congr (fun x _ => h1 x), sm_add, sm_one 262 (fun x => a * ((if src x = v then 1 else 0) - (if dst x = v then 1 else 0))) he]
end FLOW
