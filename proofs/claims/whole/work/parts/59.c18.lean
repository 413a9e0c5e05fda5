theorem GI.row {r r' : Int → Int} (h : GI r) (e : ∀ i, 0 ≤ i → i < 47 → r' i = r i) : GI r' := by
  obtain ⟨g0, g1, g2, g3⟩ := h
  refine ⟨?_, ?_, ?_, ?_⟩
  · rw [e 0 (by omega) (by omega)]; exact g0
  · rw [e 1 (by omega) (by omega)]; exact g1
  · intro n n1 n2; rw [e (5 + n) (by omega) (by omega)]; exact g2 n n1 n2
  · intro n n1 n2
    rw [e (17 + n) (by omega) (by omega), e (27 + n) (by omega) (by omega), e (37 + n) (by omega) (by omega)]; exact g3 n n1 n2
theorem AS.row {r r' : Int → Int} (h : AS r) (e : ∀ i, 307 ≤ i → i < 309 → r' i = r i) : AS r' := fun w w1 w2 => by
  rw [e (307 + w) (by omega) (by omega)]; exact h w w1 w2
theorem RI.row {r r' : Int → Int} {N : Int} (h : RI r N) (e : ∀ i, 357 ≤ i → (i < 359 ∨ 6359 ≤ i) → r' i = r i) : RI r' N := by
  obtain ⟨h1, h2, h3⟩ := h
  refine ⟨fun i i1 i2 => ?_, ?_, ?_⟩
  · rw [e i (by omega) (by omega)]; exact h1 i i1 i2
  · rw [e 357 (by omega) (by omega)]; exact h2
  · rw [e 358 (by omega) (by omega)]; exact h3
theorem VV.row {X : Hp} {B : Nat} {v n : Int → Nat} {z r r' : Int → Int} (h : VV X B v n z r) (e : ∀ i, 6359 ≤ i → r' i = r i) : VV X B v n z r' := fun w w1 w2 => (h w w1 w2).cong (fun x x1 x2 => e _ (by omega))
theorem QQ.row {X : Hp} {B : Nat} {q m_ : Int → Nat} {fi r r' : Int → Int} (h : QQ X B q m_ fi r) (e : ∀ i, 357 ≤ i → (i < 359 ∨ 38359 ≤ i) → r' i = r i) : QQ X B q m_ fi r' := fun w w1 w2 => by
  rw [e (357 + w) (by omega) (by omega)]
  exact (h w w1 w2).cong (fun x x1 x2 => e _ (by omega) (by omega))
theorem mp_o {r : Int → Int} {w e t i : Int} (hw : 0 ≤ w ∧ w ≤ 1) (he : 0 ≤ e ∧ e < 10) (hz : 0 ≤ r (47 + (10 * w + e)) ∧ r (47 + (10 * w + e)) < 12) (hi : i < 47 ∨ 307 ≤ i) : m_put r w e t i = r i := by
  unfold m_put
  rw [fu_n (by omega), fu_n (by omega)]
theorem mp_z {r : Int → Int} {w e t j : Int} (hw : 0 ≤ w ∧ w ≤ 1) (he : 0 ≤ e ∧ e < 10) (hz : 0 ≤ r (47 + (10 * w + e)) ∧ r (47 + (10 * w + e)) < 12) (hj : 0 ≤ j ∧ j < 20) : m_put r w e t (47 + j) = if j = 10 * w + e then r (47 + (10 * w + e)) + 1 else r (47 + j) := by
  unfold m_put
  by_cases q : j = 10 * w + e
  · rw [if_pos q, q, fu_s, fu_n (by omega)]
  · rw [if_neg q, fu_n (by omega), fu_n (by omega)]
theorem mp_t {r : Int → Int} {w e t j : Int} (hw : 0 ≤ w ∧ w ≤ 1) (he : 0 ≤ e ∧ e < 10) (hz : 0 ≤ r (47 + (10 * w + e)) ∧ r (47 + (10 * w + e)) < 12) (hj : 0 ≤ j ∧ j < 240) : m_put r w e t (67 + j) = if j = 12 * (10 * w + e) + r (47 + (10 * w + e)) then t else r (67 + j) := by
  unfold m_put
  rw [fu_n (by omega)]
  by_cases q : j = 12 * (10 * w + e) + r (47 + (10 * w + e))
  · rw [if_pos q, q, show 67 + (12 * (10 * w + e) + r (47 + (10 * w + e))) = 67 + 12 * (10 * w + e) + r (47 + (10 * w + e)) by omega, fu_s]
  · rw [if_neg q, fu_n (by omega)]

