theorem mu_row {r : Int → Int} {w p t c : Int} (h2 : r 2 = 1) (hw : 0 ≤ w ∧ w ≤ 1) (hp : 0 ≤ p ∧ p < 16) (ht : 0 ≤ t ∧ t ≤ 999) (hz : 0 ≤ r (357 + (1 - w)) ∧ r (357 + (1 - w)) < 8192) : RQ r (m_upd r w p t c) := by
  intro i i1 i2
  unfold m_upd
  have e1 : (fu r (6359 + 1000 * (16 * w + p) + t) (r (6359 + 1000 * (16 * w + p) + t) + c)) (357 + (1 - w)) = r (357 + (1 - w)) := fu_n (by omega)
  rw [e1]
  by_cases q : i = 2
  · rw [q, fu_s, h2]
  · rw [fu_n q, fu_n (by omega), fu_n (by omega), fu_n (by omega)]
theorem mu_v {r : Int → Int} {w p t c : Int} (hw : 0 ≤ w ∧ w ≤ 1) (hp : 0 ≤ p ∧ p < 16) (ht : 0 ≤ t ∧ t ≤ 999) (hz : 0 ≤ r (357 + (1 - w)) ∧ r (357 + (1 - w)) < 8192) : ∀ x, 0 ≤ x → x < 16000 → m_upd r w p t c (6359 + 16000 * w + x) = fu (fun x => r (6359 + 16000 * w + x)) (1000 * p + t) ((fun x => r (6359 + 16000 * w + x)) (1000 * p + t) + c) x := by
  intro x x1 x2
  unfold m_upd
  have e1 : (fu r (6359 + 1000 * (16 * w + p) + t) (r (6359 + 1000 * (16 * w + p) + t) + c)) (357 + (1 - w)) = r (357 + (1 - w)) := fu_n (by omega)
  rw [e1, fu_n (by omega), fu_n (by omega), fu_n (by omega)]
  have e2 : 6359 + 1000 * (16 * w + p) + t = 6359 + 16000 * w + (1000 * p + t) := by omega
  rw [e2]
  by_cases q : x = 1000 * p + t
  · rw [q, fu_s, fu_s]
  · rw [fu_n (by omega), fu_n q]
theorem mu_vo {r : Int → Int} {w p t c : Int} (hw : 0 ≤ w ∧ w ≤ 1) (hp : 0 ≤ p ∧ p < 16) (ht : 0 ≤ t ∧ t ≤ 999) (hz : 0 ≤ r (357 + (1 - w)) ∧ r (357 + (1 - w)) < 8192) : ∀ x, 0 ≤ x → x < 16000 → m_upd r w p t c (6359 + 16000 * (1 - w) + x) = r (6359 + 16000 * (1 - w) + x) := by
  intro x x1 x2
  unfold m_upd
  have e1 : (fu r (6359 + 1000 * (16 * w + p) + t) (r (6359 + 1000 * (16 * w + p) + t) + c)) (357 + (1 - w)) = r (357 + (1 - w)) := fu_n (by omega)
  rw [e1, fu_n (by omega), fu_n (by omega), fu_n (by omega), fu_n (by omega)]
theorem mu_q {r : Int → Int} {w p t c : Int} (hw : 0 ≤ w ∧ w ≤ 1) (hp : 0 ≤ p ∧ p < 16) (ht : 0 ≤ t ∧ t ≤ 999) (hz : 0 ≤ r (357 + (1 - w)) ∧ r (357 + (1 - w)) < 8191) : m_upd r w p t c (357 + (1 - w)) = r (357 + (1 - w)) + 1 ∧ (∀ i, 0 ≤ i → i < r (357 + (1 - w)) + 1 → m_upd r w p t c (38359 + 8192 * (1 - w) + i) = fu (fun i => r (38359 + 8192 * (1 - w) + i)) (r (357 + (1 - w))) (2 * (1000 * p + t) + (if 0 < c then 1 else 0)) i) ∧ m_upd r w p t c (357 + w) = r (357 + w) ∧ (∀ i, 0 ≤ i → i < 8192 → m_upd r w p t c (38359 + 8192 * w + i) = r (38359 + 8192 * w + i)) := by
  have e1 : (fu r (6359 + 1000 * (16 * w + p) + t) (r (6359 + 1000 * (16 * w + p) + t) + c)) (357 + (1 - w)) = r (357 + (1 - w)) := fu_n (by omega)
  refine ⟨?_, fun i i1 i2 => ?_, ?_, fun i i1 i2 => ?_⟩
  · unfold m_upd
    rw [e1, fu_n (by omega), fu_s, fu_n (by omega), e1]
  · unfold m_upd
    rw [e1, fu_n (by omega), fu_n (by omega)]
    by_cases q : i = r (357 + (1 - w))
    · rw [q, fu_s, fu_s]
    · rw [fu_n (by omega), fu_n (by omega), fu_n q]
  · unfold m_upd
    rw [e1, fu_n (by omega), fu_n (by omega), fu_n (by omega), fu_n (by omega)]
  · unfold m_upd
    rw [e1, fu_n (by omega), fu_n (by omega), fu_n (by omega), fu_n (by omega)]
theorem kpo_v {n m_ : Int → Nat} {w : Int} (hw : 0 ≤ w ∧ w ≤ 1) {n' : Nat} : kpo (fN n w n') m_ + n w = kpo n m_ + n' := by
  unfold kpo
  rcases (show w = 0 ∨ w = 1 by omega) with rfl | rfl
  · rw [fN_s, fN_n (by omega)]; omega
  · rw [fN_s, fN_n (by omega)]; omega
theorem kpo_q {n m_ : Int → Nat} {w : Int} (hw : 0 ≤ w ∧ w ≤ 1) {n' : Nat} : kpo n (fN m_ w n') + m_ w = kpo n m_ + n' := by
  unfold kpo
  rcases (show w = 0 ∨ w = 1 by omega) with rfl | rfl
  · rw [fN_s, fN_n (by omega)]; omega
  · rw [fN_s, fN_n (by omega)]; omega
theorem ST.top {X : Hp} {B : Nat} {v q n m_ : Int → Nat} {z fi r : Int → Int} (h1 : VV X B v n z r) (h2 : QQ X B q m_ fi r) : (n 0 ≤ 32002 ∧ n 1 ≤ 32002) ∧ m_ 0 ≤ 16384 ∧ m_ 1 ≤ 16384 := ⟨⟨(h1 0 (by omega) (by omega)).room, (h1 1 (by omega) (by omega)).room⟩, (h2 0 (by omega) (by omega)).room, (h2 1 (by omega) (by omega)).room⟩

