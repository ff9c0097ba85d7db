/-! scan: what the runs need of the state stands behind a frame; what the invariant gives. -/
theorem scStep_in {w : MWd} {nr n : Nat} {B NM : Nat → Nat} {MU AN : Nat → Nat → Option Nat} (hok : scOk w nr n B NM MU AN) {z : scS} (h1 : z.1 < 4) (h2 : z.2.1 ≤ n) : (scStep w n B NM MU AN z).2.1 < 4 ∧ (z.2.1 < n → (scStep w n B NM MU AN z).2.2.1 ≤ n) := by
  obtain ⟨md, p, cnt, bad, out, F⟩ := z
  obtain ⟨o1, o2, o3, o4⟩ := hok
  dsimp only at h1 h2
  unfold scStep
  dsimp only
  cases hpc : pcs (NM md) (MU md) (AN md) B p (n - p) with
  | mk x Lp =>
    cases x with
    | none =>
      dsimp only
      by_cases h : cnt = 500
      · rw [if_pos h]; exact ⟨h1, fun _ => h2⟩
      · rw [if_neg h]; exact ⟨h1, fun h => by dsimp only; omega⟩
    | some r =>
      obtain ⟨l1, l2, s, q1, q2⟩ := pcs_some hpc
      obtain ⟨p1, p2⟩ := o3 md h1
      have hrn : r < nr := p2 s r (pq_lt p1 q1) q2
      obtain ⟨u, hu⟩ := pcs_let hpc
      have hu9 : ∀ i, i < Lp → B (p + i) = 97 + u i := fun i hi => (ltO_lt (hu i hi)).2
      obtain ⟨np, tp, hA, hB, hC⟩ := o2 r hrn
      obtain ⟨m, hm, -, q131⟩ := hA.2.2.2.1
      have ecl : (wAI w 131 r).toNatClampNeg = m := by rw [q131]; exact i_cl (by omega)
      obtain ⟨t1, t2⟩ := ctT_le hA hu9 l1 (fun h0 => o4 md p r Lp h1 h2 hpc h0 np tp u hA hu9)
      dsimp only
      by_cases h : wAI w 132 r = Int32.ofNat 1
      · rw [if_pos h]; exact ⟨by dsimp only; omega, fun h => by dsimp only; omega⟩
      · rw [if_neg h]
        by_cases h : cnt = 500
        · rw [if_pos h]; exact ⟨h1, fun _ => h2⟩
        · rw [if_neg h]; exact ⟨by dsimp only; omega, fun h => by dsimp only; omega⟩
theorem scStep_Fr {F : Nat → Nat → Prop} {R : Nat → Prop} {x y : Nat} {w w' : MWd} (h : Fr F R x y w w') (hF : ∀ k a, 6 ≤ a → a < 42 → ¬ F k a) (hR : ∀ a, 6 ≤ a ∧ a < 42 ∨ 130 ≤ a ∧ a ≤ 142 → ¬ R a) {nr n : Nat} {B NM : Nat → Nat} {MU AN : Nat → Nat → Option Nat} (hok : scOk w nr n B NM MU AN) {z : scS} (h1 : z.1 < 4) (h2 : z.2.1 ≤ n) : scStep w' n B NM MU AN z = scStep w n B NM MU AN z := by
  obtain ⟨md, p, cnt, bad, out, FF⟩ := z
  obtain ⟨o1, o2, o3, o4⟩ := hok
  dsimp only at h1 h2
  unfold scStep
  dsimp only
  cases hpc : pcs (NM md) (MU md) (AN md) B p (n - p) with
  | mk x Lp =>
    cases x with
    | none => rfl
    | some r =>
      obtain ⟨l1, l2, s, q1, q2⟩ := pcs_some hpc
      obtain ⟨p1, p2⟩ := o3 md h1
      have hrn : r < nr := p2 s r (pq_lt p1 q1) q2
      obtain ⟨u, hu⟩ := pcs_let hpc
      have hu9 : ∀ i, i < Lp → B (p + i) = 97 + u i := fun i hi => (ltO_lt (hu i hi)).2
      have hct : ctT w' r B p Lp = ctT w r B p Lp := ctT_Fr h (by omega) hF hR (o2 r hrn) ⟨u, hu9⟩ (fun h0 np tp u' hA' hu' => o4 md p r Lp h1 h2 hpc h0 np tp u' hA' hu')
      have e1 : wAI w' 131 = wAI w 131 := Fr_ai h (by decide) (hR _ (by omega))
      have e2 : wAI w' 132 = wAI w 132 := Fr_ai h (by decide) (hR _ (by omega))
      dsimp only
      rw [hct, e1, e2]
theorem scRun_Fr {F : Nat → Nat → Prop} {R : Nat → Prop} {x y : Nat} {w w' : MWd} (h : Fr F R x y w w') (hF : ∀ k a, 6 ≤ a → a < 42 → ¬ F k a) (hR : ∀ a, 6 ≤ a ∧ a < 42 ∨ 130 ≤ a ∧ a ≤ 142 → ¬ R a) {nr n : Nat} {B NM : Nat → Nat} {MU AN : Nat → Nat → Option Nat} (hok : scOk w nr n B NM MU AN) : ∀ (f : Nat) (z : scS), z.1 < 4 → z.2.1 ≤ n → scRun w' n B NM MU AN f z = scRun w n B NM MU AN f z
  | 0, z, _, _ => rfl
  | f + 1, z, h1, h2 => by
    unfold scRun
    rw [scStep_Fr h hF hR hok h1 h2]
    by_cases hp : z.2.1 < n
    · rw [if_pos hp, if_pos hp]
      have hin := scStep_in hok h1 h2
      cases hs : scStep w n B NM MU AN z with
      | mk b z' =>
        rw [hs] at hin
        cases b with
        | false => rfl
        | true => exact scRun_Fr h hF hR hok f z' hin.1 (hin.2 hp)
    · rw [if_neg hp, if_neg hp]
theorem scOk_Fr {F : Nat → Nat → Prop} {R : Nat → Prop} {x y : Nat} {w w' : MWd} (h : Fr F R x y w w') (hF : ∀ k a, 6 ≤ a → a < 42 → ¬ F k a) (hR : ∀ a, 6 ≤ a ∧ a < 42 ∨ 130 ≤ a ∧ a ≤ 142 → ¬ R a) {nr n : Nat} {B NM : Nat → Nat} {MU AN : Nat → Nat → Option Nat} (hok : scOk w nr n B NM MU AN) : scOk w' nr n B NM MU AN := by
  obtain ⟨o1, o2, o3, o4⟩ := hok
  refine ⟨o1, fun r hr => RuleOk_Fr h (by omega) (o2 r hr) hF hR, o3, fun m p r L a1 a2 a3 a4 np tp u a5 a6 => ?_⟩
  obtain ⟨l1, l2, s, q1, q2⟩ := pcs_some a3
  obtain ⟨p1, p2⟩ := o3 m a1
  have hrn : r < nr := p2 s r (pq_lt p1 q1) q2
  have hcf := cut_Fr (np := np) (tp := tp) (L := L) (u := u) h (r := r) (by omega) hF hR
  rw [Fr_ai h (by decide) (hR _ (by omega))] at a4
  obtain ⟨k, k1, k2, k3⟩ := o4 m p r L a1 a2 a3 a4 np tp u (hcf.1.mp a5) a6
  exact ⟨k, k1, k2, (hcf.2 k).mpr k3⟩
theorem sc_of {w : MWd} {c nb nr : Nat} (hnb : nb ≤ nr) (hnr : nr ≤ 12) (hrb : ∀ r, r < nr → RuleOk w r) (hm : ∀ m, m < 4 → MachOk w c m nb) : ∃ (NM : Nat → Nat) (MU AN : Nat → Nat → Option Nat), (∀ m, m < 4 → ClsA w c m (NM m) (MU m) (AN m)) ∧ (∀ m, m < 4 → RefA w m (NM m) (MU m) (AN m)) ∧ ∀ n B, scOk w nr n B NM MU AN := by
  obtain ⟨NM, MU, AN, hP⟩ := pick4 (M := 4) (P := fun m n mv an => MachA w c m n mv an ∧ MachB w c m n mv ∧ MachC w m n nb mv an) hm
  have h6 : ∀ m, m < 4 → ∀ t a, t < 8 * NM m → MU m t = some a → a < NM m := fun m hm4 t a ht ha => by
    obtain ⟨-, ⟨T, dep, hB, -⟩, -⟩ := hP m hm4
    refine (BF_edge hB (s := t / 8) (l := t % 8) (by omega) (by omega) ?_).1
    rw [show 8 * (t / 8) + t % 8 = t by omega]; exact ha
  refine ⟨NM, MU, AN, fun m hm4 => ClsA_of (hP m hm4).1, fun m hm4 => RefA_of (hP m hm4).1, fun n B => ⟨hnr, hrb, fun m hm4 => ⟨h6 m hm4, fun s q hs hq => ?_⟩, fun m p r L a1 a2 a3 a4 => ?_⟩⟩
  · have := ((hP m hm4).2.2 s q hs hq).1; omega
  · exact mach_cut (hP m a1).2.2 (h6 m a1) hrb hnb a3 a4
theorem tape_B {w : MWd} (h : iTape w) : ∃ (n : Nat) (B : Nat → Nat), n ≤ 1000 ∧ wFI w 449 2 = Int32.ofNat n ∧ wFI w 642 128 = Int32.ofNat n ∧ (∀ i, i < n → B i < 256 ∧ wAI w 3 i = Int32.ofNat (B i)) ∧ ∀ i, i < n → B i < 256 ∧ wAI w 129 i = Int32.ofNat (B i) := by
  obtain ⟨n, h1, h2, h3, h4⟩ := h
  have h' : ∀ i, ∃ b : Nat, i < n → b < 256 ∧ wAI w 3 i = Int32.ofNat b ∧ wAI w 129 i = Int32.ofNat b := fun i => by
    by_cases hi : i < n
    · obtain ⟨b, hb⟩ := h4 i hi
      exact ⟨b, fun _ => hb⟩
    · exact ⟨0, fun q => absurd q hi⟩
  exact ⟨n, fun i => Classical.choose (h' i), h1, h2, h3, fun i hi => ⟨(Classical.choose_spec (h' i) hi).1, (Classical.choose_spec (h' i) hi).2.1⟩, fun i hi => ⟨(Classical.choose_spec (h' i) hi).1, (Classical.choose_spec (h' i) hi).2.2⟩⟩
