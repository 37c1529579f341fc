/-! covers and unions of groups -/
section CV
variable {Gd : Nat → Prop} {gn : Nat → Nat}
def jun2 (gn : Nat → Nat) : List Nat → Nat | [] => 0 | u :: l => jun2 gn l ||| gn u
/-- a union of n groups -/
def jU (Gd : Nat → Prop) (gn : Nat → Nat) : Nat → Nat → Prop | 0, t => t = 0 | n + 1, t => ∃ t' u, jU Gd gn n t' ∧ Gd u ∧ t = t' ||| gn u
/-- covered by n groups -/
def jCov (Gd : Nat → Prop) (gn : Nat → Nat) (n s : Nat) : Prop := ∃ l : List Nat, l.length = n ∧ (∀ u, u ∈ l → Gd u) ∧ ∀ i, s.testBit i = true → ∃ u, u ∈ l ∧ (gn u).testBit i = true
def jdf2 (s g : Nat) : Nat := s ^^^ (s &&& g)
theorem jdf2_bit (s g i : Nat) : (jdf2 s g).testBit i = (s.testBit i && !g.testBit i) := by
  unfold jdf2
  rw [Nat.testBit_xor, Nat.testBit_and]
  cases s.testBit i <;> cases g.testBit i <;> rfl
theorem jun2_bit (l : List Nat) (i : Nat) : (jun2 gn l).testBit i = true ↔ ∃ u, u ∈ l ∧ (gn u).testBit i = true := by
  induction l with
  | nil =>
    constructor
    · intro h; rw [jun2, Nat.zero_testBit] at h; exact absurd h (by decide)
    · rintro ⟨u, hu, -⟩; exact absurd hu (by simp)
  | cons a l ih =>
    rw [jun2, Nat.testBit_or, Bool.or_eq_true, ih]
    constructor
    · rintro (⟨u, h1, h2⟩ | h)
      · exact ⟨u, List.mem_cons_of_mem _ h1, h2⟩
      · exact ⟨a, List.mem_cons_self, h⟩
    · rintro ⟨u, h1, h2⟩
      rcases List.mem_cons.mp h1 with rfl | h1
      · exact Or.inr h2
      · exact Or.inl ⟨u, h1, h2⟩
theorem jU_list : ∀ l : List Nat, (∀ u, u ∈ l → Gd u) → jU Gd gn l.length (jun2 gn l) := by
  intro l
  induction l with
  | nil => intro _; rfl
  | cons a l ih =>
    intro h
    exact ⟨jun2 gn l, a, ih (fun u hu => h u (List.mem_cons_of_mem _ hu)), h a List.mem_cons_self, rfl⟩
theorem jU_ex : ∀ n t, jU Gd gn n t → ∃ l : List Nat, l.length = n ∧ (∀ u, u ∈ l → Gd u) ∧ jun2 gn l = t := by
  intro n
  induction n with
  | zero => intro t h; exact ⟨[], rfl, fun u hu => absurd hu (by simp), h.symm⟩
  | succ n ih =>
    rintro t ⟨t', u, h1, h2, rfl⟩
    obtain ⟨l, e1, e2, rfl⟩ := ih t' h1
    refine ⟨u :: l, by rw [List.length_cons, e1], fun v hv => ?_, rfl⟩
    rcases List.mem_cons.mp hv with rfl | hv
    · exact h2
    · exact e2 v hv
/-- the groups lie within x: to cover x and to make x are the same -/
theorem jU_iff_cov {x : Nat} (hx : ∀ u, Gd u → ∀ i, (gn u).testBit i = true → x.testBit i = true) (n : Nat) : jU Gd gn n x ↔ jCov Gd gn n x := by
  constructor
  · intro h
    obtain ⟨l, e1, e2, e3⟩ := jU_ex n x h
    exact ⟨l, e1, e2, fun i hi => (jun2_bit l i).mp (by rw [e3]; exact hi)⟩
  · rintro ⟨l, e1, e2, e3⟩
    have h := jU_list (gn := gn) l e2
    have hq : jun2 gn l = x := by
      apply Nat.eq_of_testBit_eq
      intro i
      rw [Bool.eq_iff_iff, jun2_bit]
      constructor
      · rintro ⟨u, h1, h2⟩
        exact hx u (e2 u h1) i h2
      · exact e3 i
    rw [e1, hq] at h
    exact h
/-- one group taken, which has a bit of the set -/
theorem jCov_step {s l n : Nat} (hl : s.testBit l = true) : jCov Gd gn (n + 1) s ↔ ∃ u, Gd u ∧ (gn u).testBit l = true ∧ jCov Gd gn n (jdf2 s (gn u)) := by
  constructor
  · rintro ⟨L, e1, e2, e3⟩
    obtain ⟨u, u1, u2⟩ := e3 l hl
    refine ⟨u, e2 u u1, u2, L.erase u, ?_, fun v hv => e2 v (List.mem_of_mem_erase hv), fun i hi => ?_⟩
    · rw [List.length_erase_of_mem u1, e1]; rfl
    · rw [jdf2_bit, Bool.and_eq_true] at hi
      obtain ⟨v, v1, v2⟩ := e3 i hi.1
      have hvu : v ≠ u := by
        rintro rfl
        rw [v2] at hi
        exact absurd hi.2 (by decide)
      exact ⟨v, (List.mem_erase_of_ne hvu).mpr v1, v2⟩
  · rintro ⟨u, u1, u2, L, e1, e2, e3⟩
    refine ⟨u :: L, by rw [List.length_cons, e1], fun v hv => ?_, fun i hi => ?_⟩
    · rcases List.mem_cons.mp hv with rfl | hv
      · exact u1
      · exact e2 v hv
    · by_cases hg : (gn u).testBit i = true
      · exact ⟨u, List.mem_cons_self, hg⟩
      · obtain ⟨v, v1, v2⟩ := e3 i (by rw [jdf2_bit, hi]; simp [hg])
        exact ⟨v, List.mem_cons_of_mem _ v1, v2⟩
theorem jCov_zero (s : Nat) : jCov Gd gn 0 s ↔ s = 0 := by
  constructor
  · rintro ⟨L, e1, -, e3⟩
    have : L = [] := List.eq_nil_of_length_eq_zero e1
    subst this
    apply Nat.eq_of_testBit_eq
    intro i
    rw [Nat.zero_testBit]
    cases h : s.testBit i with
    | false => rfl
    | true =>
      obtain ⟨u, hu, -⟩ := e3 i h
      exact absurd hu (by simp)
  · rintro rfl
    exact ⟨[], rfl, fun u hu => absurd hu (by simp), fun i hi => by rw [Nat.zero_testBit] at hi; exact absurd hi (by decide)⟩
/-- the least number, told as -1 when there is none -/
def jMin (P : Nat → Prop) (o : Int32) : Prop := (o = -nI 1 ∧ ∀ n, ¬ P n) ∨ ∃ n, o = nI n ∧ P n ∧ ∀ m, P m → n ≤ m
theorem jMin_uniq {P : Nat → Prop} {o o' : Int32} (h : jMin P o) (h' : jMin P o') : o = o' := by
  rcases h with ⟨h1, h2⟩ | ⟨n, h1, h2, h3⟩
  · rcases h' with ⟨g1, g2⟩ | ⟨m, g1, g2, g3⟩
    · rw [h1, g1]
    · exact absurd g2 (h2 m)
  · rcases h' with ⟨g1, g2⟩ | ⟨m, g1, g2, g3⟩
    · exact absurd h2 (g2 n)
    · have e1 := h3 m g2
      have e2 := g3 n h2
      rw [h1, g1]
      congr 1
      omega
theorem jMin_congr {P Q : Nat → Prop} {o : Int32} (h : jMin P o) (hpq : ∀ n, P n ↔ Q n) : jMin Q o := by
  rcases h with ⟨h1, h2⟩ | ⟨n, h1, h2, h3⟩
  · exact Or.inl ⟨h1, fun n q => h2 n ((hpq n).mpr q)⟩
  · exact Or.inr ⟨n, h1, (hpq n).mp h2, fun m q => h3 m ((hpq m).mpr q)⟩
end CV
