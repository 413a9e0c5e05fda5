/-- the older graph is a part of the newer one -/
def PX (r1 r2 : Int → Int) : Prop := (r1 0 ≤ r2 0 ∧ r1 1 ≤ r2 1) ∧ (∀ j, 0 ≤ j → j < r1 0 → r2 (5 + j) = r1 (5 + j)) ∧ ∀ e, 0 ≤ e → e < r1 1 → r2 (17 + e) = r1 (17 + e) ∧ r2 (27 + e) = r1 (27 + e) ∧ r2 (37 + e) = r1 (37 + e)
theorem SG.px {r r' : Int → Int} (h : SG r r') (hG : GI r) : PX r r' := by
  have b0 := hG.1
  have b1 := hG.2.1
  refine ⟨?_, fun j a b => h _ (by omega) (by omega) (by omega) (by omega), fun e a b => ⟨h _ (by omega) (by omega) (by omega) (by omega), h _ (by omega) (by omega) (by omega) (by omega), h _ (by omega) (by omega) (by omega) (by omega)⟩⟩
  rw [h 0 (by omega) (by omega) (by omega) (by omega), h 1 (by omega) (by omega) (by omega) (by omega)]
  omega
theorem PX.node {r : Int → Int} {d i : Int} (hG : GI r) (h0 : 0 ≤ r 0 ∧ r 0 < 6) : PX r (m_node r d i) := by
  have b1 := hG.2.1
  refine ⟨⟨by rw [mn_0]; omega, by rw [mn_o h0 (by omega) (by omega) (by omega)]; omega⟩, fun j a b => by rw [mn_d h0 (by omega), if_neg (by omega)], fun e a b => ⟨mn_o h0 (by omega) (by omega) (by omega), mn_o h0 (by omega) (by omega) (by omega), mn_o h0 (by omega) (by omega) (by omega)⟩⟩
theorem PX.edge {r : Int → Int} {x y z : Int} (hG : GI r) (h1 : r 1 < 10) : PX r (m_edge r x y z) := by
  have b0 := hG.1
  have b1 := hG.2.1
  refine ⟨⟨by rw [me_o (by omega) (by omega) (by omega) (by omega)]; omega, by rw [me_1]; omega⟩, fun j a b => me_o (by omega) (by omega) (by omega) (by omega), fun e a b => ⟨me_o (by omega) (by omega) (by omega) (by omega), me_o (by omega) (by omega) (by omega) (by omega), me_o (by omega) (by omega) (by omega) (by omega)⟩⟩
theorem PX.sg {r0 r : Int → Int} (h : PX r0 r) (h0 : GG r0) (h1 : GG r) (e0 : r0 0 = r 0) (e1 : r0 1 = r 1) : SG r r0 := by
  obtain ⟨-, p1, p2⟩ := h
  have b0 := h1.1.1.1
  have b1 := h1.1.1.2.1
  intro i i1 i2 i3 i4
  by_cases q0 : i = 0
  · rw [q0]; exact e0
  by_cases q1 : i = 1
  · rw [q1]; exact e1
  by_cases q2 : i < 11
  · obtain ⟨j, rfl⟩ : ∃ j, i = 5 + j := ⟨i - 5, by omega⟩
    by_cases q : j < r0 0
    · exact (p1 j (by omega) q).symm
    · rw [h0.1.2.2 j (by omega) (by omega), h1.1.2.2 j (by omega) (by omega)]
  by_cases q3 : i < 27
  · obtain ⟨j, rfl⟩ : ∃ j, i = 17 + j := ⟨i - 17, by omega⟩
    by_cases q : j < r0 1
    · exact (p2 j (by omega) q).1.symm
    · rw [(h0.2.2 j (by omega) (by omega)).1, (h1.2.2 j (by omega) (by omega)).1]
  by_cases q4 : i < 37
  · obtain ⟨j, rfl⟩ : ∃ j, i = 27 + j := ⟨i - 27, by omega⟩
    by_cases q : j < r0 1
    · exact (p2 j (by omega) q).2.1.symm
    · rw [(h0.2.2 j (by omega) (by omega)).2.1, (h1.2.2 j (by omega) (by omega)).2.1]
  · obtain ⟨j, rfl⟩ : ∃ j, i = 37 + j := ⟨i - 37, by omega⟩
    by_cases q : j < r0 1
    · exact (p2 j (by omega) q).2.2.symm
    · rw [(h0.2.2 j (by omega) (by omega)).2.2, (h1.2.2 j (by omega) (by omega)).2.2]
def EIc (er : Int → Int) (c : Int) : Prop := ∀ j, 0 ≤ j → j < 4 → 0 ≤ er j ∧ er j ≤ c
/-- what every reachable state keeps, after c calls -/
def PI (σ : St) (c : Int) : Prop := RWI σ.1 (12 * c) ∧ EIc σ.2.2.2 c ∧ (0 ≤ σ.2.2.1 ∧ σ.2.2.1 ≤ 3) ∧ (∀ i, 0 ≤ i → i < σ.2.2.1 → RWI (pr σ.2.1 i) (12 * c)) ∧ ∀ i, 0 ≤ i → i < σ.2.2.1 → PX (pr σ.2.1 i) (if i + 1 = σ.2.2.1 then σ.1 else pr σ.2.1 (i + 1))
theorem PI.mono {σ : St} {c d : Int} (h : PI σ c) (hd : c ≤ d) : PI σ d := by
  obtain ⟨h1, h2, h3, h4, h5⟩ := h
  exact ⟨h1.mono (by omega), fun j a b => by have := h2 j a b; omega, h3, fun i a b => (h4 i a b).mono (by omega), h5⟩
theorem PI.fail {σ : St} {c code : Int} (h : PI σ c) (hc : -5 ≤ code ∧ code ≤ -2) : PI (sp_fail σ code).2 (c + 1) := by
  obtain ⟨h1, h2, h3, h4, h5⟩ := h
  refine ⟨h1.mono (by omega), fun j a b => ?_, h3, fun i a b => (h4 i a b).mono (by omega), h5⟩
  show 0 ≤ fe σ.2.2.2 code j ∧ fe σ.2.2.2 code j ≤ c + 1
  unfold fe
  have z1 := h2 (-2 - code) (by omega) (by omega)
  have z2 := h2 j a b
  by_cases q : j = -2 - code
  · rw [q, fu_s]; omega
  · rw [fu_n q]; omega
theorem PI.new {σ : St} {c : Int} {r' : Int → Int} (h : PI σ c) (hr : RWI r' (12 * (c + 1))) (hx : PX σ.1 r') : PI (sp_new σ r') (c + 1) := by
  obtain ⟨r, pf, sv, er⟩ := σ
  obtain ⟨h1, h2, h3, h4, h5⟩ := h
  dsimp only at h1 h2 h3 h4 h5 hx
  have hC := h1.2.2.2.2.2
  unfold sp_new PI
  dsimp only
  unfold sv_n sv_p
  have r1 := h1.mono (show 12 * c ≤ 12 * (c + 1) by omega)
  by_cases q : sv = 3
  · subst q
    rw [if_pos rfl, if_pos rfl, if_pos rfl]
    have p2 : pr (cpk (shk pf 109486) (54743 * 2) r 54743) 2 = r := pr_cps hC
    have po : ∀ i, 0 ≤ i → i < 2 → pr (cpk (shk pf 109486) (54743 * 2) r 54743) i = pr pf (i + 1) := fun i a b => by rw [pr_cpo (by omega) a (by omega), pr_shk ⟨a, b⟩]
    refine ⟨hr, fun j a b => by have := h2 j a b; omega, by omega, fun i a b => ?_, fun i a b => ?_⟩
    · by_cases q2 : i = 2
      · rw [q2, p2]; exact r1
      · rw [po i a (by omega)]; exact (h4 (i + 1) (by omega) (by omega)).mono (by omega)
    · by_cases q2 : i = 2
      · rw [q2, p2, if_pos (by omega)]; exact hx
      · rw [po i a (by omega), if_neg (by omega)]
        have z := h5 (i + 1) (by omega) (by omega)
        by_cases q3 : i = 1
        · rw [q3] at z ⊢
          rw [if_pos (by omega)] at z
          rw [show (1 : Int) + 1 = 2 by omega, p2]; exact z
        · rw [if_neg (by omega)] at z
          rw [po (i + 1) (by omega) (by omega)]; exact z
  · rw [if_neg q, if_neg q, if_neg q]
    have p2 : pr (cpk pf (54743 * sv) r 54743) sv = r := pr_cps hC
    have po : ∀ i, 0 ≤ i → i < sv → pr (cpk pf (54743 * sv) r 54743) i = pr pf i := fun i a b => pr_cpo (by omega) a (by omega)
    refine ⟨hr, fun j a b => by have := h2 j a b; omega, by omega, fun i a b => ?_, fun i a b => ?_⟩
    · by_cases q2 : i = sv
      · rw [q2, p2]; exact r1
      · rw [po i a (by omega)]; exact (h4 i a (by omega)).mono (by omega)
    · by_cases q2 : i = sv
      · rw [q2, p2, if_pos rfl]; exact hx
      · rw [po i a (by omega), if_neg (by omega)]
        have z := h5 i a (by omega)
        by_cases q3 : i + 1 = sv
        · rw [if_pos q3] at z
          rw [q3, p2]; exact z
        · rw [if_neg q3] at z
          rw [po (i + 1) (by omega) (by omega)]; exact z
theorem PI.undo {σ : St} {c : Int} (h : PI σ c) : PI (sp_undo σ).2 (c + 1) := by
  by_cases q : σ.2.2.1 = 0
  · have e : sp_undo σ = sp_fail σ (-5) := if_pos q
    rw [e]; exact h.fail (by omega)
  · obtain ⟨r, pf, sv, er⟩ := σ
    obtain ⟨h1, h2, h3, h4, h5⟩ := h
    dsimp only at h1 h2 h3 h4 h5 q
    have e : sp_undo (r, pf, sv, er) = (sv - 1, cpk r 0 (fun j => pf (54743 * (sv - 1) + j)) 54743, pf, sv - 1, er) := if_neg q
    rw [e, pr_und h1.2.2.2.2.2]
    refine ⟨(h4 (sv - 1) (by omega) (by omega)).mono (by omega), fun j a b => by have := h2 j a b; dsimp only; omega, by dsimp only; omega, fun i a b => ?_, fun i a b => ?_⟩
    · dsimp only at b ⊢
      exact (h4 i a (by omega)).mono (by omega)
    · dsimp only at b ⊢
      have z := h5 i a (by omega)
      rw [if_neg (by omega)] at z
      by_cases q3 : i + 1 = sv - 1
      · rw [if_pos q3, ← q3]; exact z
      · rw [if_neg q3]; exact z
theorem PI.undo_h {r pf er : Int → Int} {sv c : Int} (h : PI (r, pf, sv, er) c) : 0 < sv → GI (pr pf (sv - 1)) ∧ (pr pf (sv - 1) 0 = r 0 → pr pf (sv - 1) 1 = r 1 → SG r (pr pf (sv - 1))) := fun hs => by
  obtain ⟨h1, h2, h3, h4, h5⟩ := h
  dsimp only at h1 h3 h4 h5
  have z := h5 (sv - 1) (by omega) (by omega)
  rw [if_pos (by omega)] at z
  have z4 := h4 (sv - 1) (by omega) (by omega)
  exact ⟨z4.gi, fun e0 e1 => z.sg z4.1 h1.1 e0 e1⟩
theorem PI.zero : PI (fun _ => 0, fun _ => 0, 0, fun _ => 0) 0 := by
  have hG : GI (fun _ => 0) := ⟨by show (0 : Int) ≤ 0 ∧ (0 : Int) ≤ 6; omega, by show (0 : Int) ≤ 0 ∧ (0 : Int) ≤ 10; omega, fun _ _ _ => by show (0 : Int) ≤ 0 ∧ (0 : Int) ≤ 2; omega, fun _ _ _ => by show ((0 : Int) ≤ 0 ∧ (0 : Int) < 6) ∧ ((0 : Int) ≤ 0 ∧ (0 : Int) < 6) ∧ (0 : Int) ≤ 0 ∧ (0 : Int) ≤ 1; omega⟩
  refine ⟨⟨⟨⟨hG, fun e a b => absurd (show e < 0 from b) (by omega), fun _ _ _ => rfl⟩, fun n a b => absurd (show n < 0 from b) (by omega), fun _ _ _ => ⟨rfl, rfl, rfl⟩⟩, ⟨fun _ _ _ => by show (-2 : Int) ≤ 0 ∧ (0 : Int) ≤ 9; omega, ⟨by show (0 : Int) ≤ 0 ∧ (0 : Int) ≤ 12 * 0; omega, by show (0 : Int) ≤ 0 ∧ (0 : Int) ≤ 12 * 0; omega⟩, Or.inl rfl, fun _ _ _ _ => rfl⟩, ⟨fun _ _ _ => by show (0 : Int) ≤ 0 ∧ (0 : Int) ≤ 12; omega, fun _ _ _ => by show (0 : Int) ≤ 0 ∧ (0 : Int) ≤ 999; omega, fun _ _ _ _ _ _ => rfl, fun w e i _ _ a b _ _ => absurd (show e < 0 from b) (by omega)⟩, ⟨fun _ _ _ => by show (0 : Int) ≤ 0 ∧ (0 : Int) ≤ 12; omega, fun _ _ _ => by show (0 : Int) ≤ 0 ∧ (0 : Int) ≤ 999; omega, fun _ _ _ => by show (0 : Int) ≤ 0 ∧ (0 : Int) < 6; omega⟩, ⟨⟨fun _ _ _ => by show -(10 * (12 * (0 : Int))) ≤ 0 ∧ (0 : Int) ≤ 10 * (12 * 0); omega, by show (0 : Int) ≤ 0 ∧ (0 : Int) ≤ 12 * 0; omega, by show (0 : Int) ≤ 0 ∧ (0 : Int) ≤ 12 * 0; omega⟩, fun _ _ _ => by show (0 : Int) ≤ 0 ∧ (0 : Int) < 32000; omega, fun w x _ _ _ _ h => absurd rfl h, fun w i _ _ a b => absurd (show i < 0 from b) (by omega)⟩, fun _ _ => rfl⟩, fun _ _ _ => by show (0 : Int) ≤ 0 ∧ (0 : Int) ≤ 0; omega, by show (0 : Int) ≤ 0 ∧ (0 : Int) ≤ 3; omega, fun i a b => absurd (show i < 0 from b) (by omega), fun i a b => absurd (show i < 0 from b) (by omega)⟩

