/-! scan: what is met can be cut. -/
theorem mach_cut {w : MWd} {m N nb nr n p r L : Nat} {mv an : Nat → Option Nat} {B : Nat → Nat} (hM : MachC w m N nb mv an) (h6 : ∀ t a, t < 8 * N → mv t = some a → a < N) (hok : ∀ r, r < nr → RuleOk w r) (hnb : nb ≤ nr) (hpc : pcs N mv an B p (n - p) = (some r, L)) (hl1 : wAI w 133 r = Int32.ofNat 1) :
    ∀ np tp u, RuleA w r np tp → (∀ i, i < L → B (p + i) = 97 + u i) → ∃ k, 1 ≤ k ∧ k ≤ L ∧ cutRw w r np L u k := by
  intro np tp u hA hu
  obtain ⟨l1, l2, s, q1, q2⟩ := pcs_some hpc
  obtain ⟨v, hv⟩ := pcs_let hpc
  have hu8 : ∀ i, i < L → u i < 8 := fun i hi => by
    have h1 := ltO_lt (hv i hi)
    have h2 := hu i hi
    omega
  obtain ⟨c1, -, c3⟩ := hM s r (pq_lt h6 q1) q2
  obtain ⟨np', tp', hA', hB', hC'⟩ := hok r (by omega)
  have hnp : np' = np := by
    have e1 : wAI w 134 r = Int32.ofNat np' := hA'.2.2.2.2.2.2.2.1
    have e2 : wAI w 134 r = Int32.ofNat np := hA.2.2.2.2.2.2.2.1
    rw [e1, i_eq (by have := hA'.1; omega) (by have := hA.1; omega)] at e2
    exact e2
  subst hnp
  refine hit_ex hA' hB' hC' hl1 l1 hu8 (c3 u (L - 1) (fun i hi => hu8 i (by omega)) ?_)
  rw [show L - 1 + 1 = L by omega]
  exact pq_stN q1 hu
