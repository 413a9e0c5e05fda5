theorem cf_fo {a : Int → Int} {i v : Int} : ∀ n : Nat, (n : Int) ≤ i → cf (fu a i v) n = cf a n
  | 0, _ => rfl
  | n + 1, h => by
    have ih := cf_fo (a := a) (i := i) (v := v) n (by omega)
    show cf (fu a i v) n + fu a i v n = cf a n + a n
    rw [ih, fu_n (by omega)]
theorem cf_fv {a : Int → Int} {i v : Int} (hi : 0 ≤ i) : ∀ n : Nat, i < n → cf (fu a i v) n = cf a n + v - a i
  | 0, h => absurd h (by omega)
  | n + 1, h => by
    show cf (fu a i v) n + fu a i v n = cf a n + a n + v - a i
    by_cases q : i = (n : Int)
    · rw [cf_fo n (by omega), q, fu_s]; omega
    · rw [cf_fv hi n (by omega), fu_n (fun e => q e.symm)]; omega
theorem cf_sw {a : Int → Int} {i : Int} {n : Nat} (hi : 0 ≤ i) (h : i < n + 1) : cf (fu a i (a n)) n = cf a (n + 1) - a i := by
  show _ = cf a n + a n - a i
  by_cases q : i = (n : Int)
  · rw [cf_fo n (by omega), q]; omega
  · rw [cf_fv hi n (by omega)]
theorem cf_sh {a : Int → Int} {f : Int} (hf : 0 ≤ f) : ∀ n : Nat, f ≤ n → cf (fun j => if j < f then a j else a (j + 1)) n = cf a (n + 1) - a f
  | 0, h => by
    have : f = 0 := by omega
    subst this
    show (0 : Int) = 0 + a 0 - a 0
    omega
  | n + 1, h => by
    show cf (fun j => if j < f then a j else a (j + 1)) n + (if ((n : Nat) : Int) < f then a n else a (n + 1)) = cf a (n + 1) + a ((n + 1 : Nat) : Int) - a f
    by_cases q : f = ((n + 1 : Nat) : Int)
    · have e : cf (fun j => if j < f then a j else a (j + 1)) n = cf a n := cf_ext n (fun j j1 j2 => by show (if j < f then a j else a (j + 1)) = a j; rw [if_pos (by omega)])
      rw [e, if_pos (by omega), q]
      show cf a n + a n = cf a n + a n + a ((n + 1 : Nat) : Int) - a ((n + 1 : Nat) : Int)
      omega
    · rw [cf_sh hf n (by omega), if_neg (by omega)]
      have e2 : a ((n : Int) + 1) = a ((n + 1 : Nat) : Int) := by congr 1
      rw [e2]; omega
theorem fx_ex {r : Int → Int} {w nd t : Int} : ∀ (k : Nat) (x : Int), x = 12 * w + k → x < 12 * w + r (307 + w) → r (309 + x) = nd → r (333 + x) = t → ∃ a, FX r w nd t a := by
  intro k
  induction k using Nat.strongRecOn with
  | ind k ih =>
    intro x hx h1 h2 h3
    by_cases q : ∃ y, 12 * w ≤ y ∧ y < x ∧ r (309 + y) = nd ∧ r (333 + y) = t
    · obtain ⟨y, y1, y2, y3, y4⟩ := q
      exact ih (y - 12 * w).toNat (by omega) y (by omega) (by omega) y3 y4
    · exact ⟨x, ⟨by omega, h1⟩, ⟨h2, h3⟩, fun y y1 y2 y3 => q ⟨y, y1, y2, y3.1, y3.2⟩⟩
theorem out_z {r : Int → Int} {w nd t u : Int} (hw : 0 ≤ w ∧ w ≤ 1) (hA : AS r) (hf : FX r w nd t (fix r w nd t)) (hu : 0 ≤ u ∧ u ≤ 1) : m_out r w nd t (307 + u) = if u = w then r (307 + w) - 1 else r (307 + u) := by
  have a1 := hA w hw.1 (by omega)
  have f1 := hf.1
  unfold m_out m_sf
  rw [if_neg (by omega)]
  by_cases q : u = w
  · rw [if_pos q, q, fu_s]
  · rw [if_neg q, fu_n (by omega)]
theorem out_c {r : Int → Int} {w nd t j : Int} (hw : 0 ≤ w ∧ w ≤ 1) (hA : AS r) (hf : FX r w nd t (fix r w nd t)) (hj : 0 ≤ j ∧ j < 24) : m_out r w nd t (309 + j) = (if fix r w nd t ≤ j ∧ j < 12 * w + (r (307 + w) - 1) then r (309 + (j + 1)) else r (309 + j)) ∧ m_out r w nd t (333 + j) = (if fix r w nd t ≤ j ∧ j < 12 * w + (r (307 + w) - 1) then r (333 + (j + 1)) else r (333 + j)) := by
  have a1 := hA w hw.1 (by omega)
  have f1 := hf.1
  unfold m_out m_sf
  by_cases q : fix r w nd t ≤ j ∧ j < 12 * w + (r (307 + w) - 1)
  · rw [if_pos q, if_pos q, if_pos (by omega), if_pos (by omega), fu_n (by omega), fu_n (by omega)]
    exact ⟨by congr 1; omega, by congr 1; omega⟩
  · rw [if_neg q, if_neg q, if_neg (by omega), if_neg (by omega), fu_n (by omega), fu_n (by omega)]
    exact ⟨rfl, rfl⟩
theorem HS.out {r ut : Int → Int} {w nd t u i : Int} (hA : AS r) (h : HS r ut u) (hw : 0 ≤ w ∧ w ≤ 1) (hu : 0 ≤ u ∧ u ≤ 1) (hf : FX r w nd t (fix r w nd t)) (hi : 0 ≤ i ∧ i < r (307 + w)) (hx : ut (12 * w + i) = 1000 * nd + t) : HS (m_out r w nd t) (fu ut (12 * w + i) (ut (12 * w + (r (307 + w) - 1)))) u := by
  have a1 := hA w hw.1 (by omega)
  have a2 := hA u hu.1 (by omega)
  obtain ⟨f1, f2, f3⟩ := hf
  have hf : FX r w nd t (fix r w nd t) := ⟨f1, f2, f3⟩
  intro x
  rw [out_z hw hA hf hu]
  by_cases q : u = w
  · subst q
    rw [if_pos rfl]
    obtain ⟨m, hm⟩ : ∃ m : Nat, r (307 + u) = (m : Int) + 1 := ⟨(r (307 + u) - 1).toNat, by omega⟩
    have hx0 := h x
    rw [show (r (307 + u) - 1).toNat = m by omega]
    rw [show (r (307 + u)).toNat = m + 1 by omega] at hx0
    have e1 := cf_sw (a := fun j => if ut (12 * u + j) = x then (1 : Int) else 0) (i := i) (n := m) hi.1 (by omega)
    have e2 := cf_sh (a := fun j => if 1000 * r (309 + (12 * u + j)) + r (333 + (12 * u + j)) = x then (1 : Int) else 0) (f := fix r u nd t - 12 * u) (by omega) m (by omega)
    have e3 : cf (fun j => if fu ut (12 * u + i) (ut (12 * u + (r (307 + u) - 1))) (12 * u + j) = x then (1 : Int) else 0) m = cf (fu (fun j => if ut (12 * u + j) = x then (1 : Int) else 0) i ((fun j => if ut (12 * u + j) = x then (1 : Int) else 0) m)) m := cf_ext m (fun j j1 j2 => by
      show (if fu ut (12 * u + i) (ut (12 * u + (r (307 + u) - 1))) (12 * u + j) = x then (1 : Int) else 0) = fu (fun j => if ut (12 * u + j) = x then (1 : Int) else 0) i ((fun j => if ut (12 * u + j) = x then (1 : Int) else 0) m) j
      by_cases qj : j = i
      · rw [qj, fu_s, fu_s, show 12 * u + (r (307 + u) - 1) = 12 * u + (m : Int) by omega]
      · rw [fu_n (by omega), fu_n qj])
    have e4 : cf (fun j => if 1000 * m_out r u nd t (309 + (12 * u + j)) + m_out r u nd t (333 + (12 * u + j)) = x then (1 : Int) else 0) m = cf (fun j => if j < fix r u nd t - 12 * u then (fun j => if 1000 * r (309 + (12 * u + j)) + r (333 + (12 * u + j)) = x then (1 : Int) else 0) j else (fun j => if 1000 * r (309 + (12 * u + j)) + r (333 + (12 * u + j)) = x then (1 : Int) else 0) (j + 1)) m := cf_ext m (fun j j1 j2 => by
      show (if 1000 * m_out r u nd t (309 + (12 * u + j)) + m_out r u nd t (333 + (12 * u + j)) = x then (1 : Int) else 0) = (if j < fix r u nd t - 12 * u then (if 1000 * r (309 + (12 * u + j)) + r (333 + (12 * u + j)) = x then (1 : Int) else 0) else (if 1000 * r (309 + (12 * u + (j + 1))) + r (333 + (12 * u + (j + 1))) = x then (1 : Int) else 0))
      obtain ⟨c1, c2⟩ := out_c hw hA hf (j := 12 * u + j) (by omega)
      by_cases qj : j < fix r u nd t - 12 * u
      · rw [if_neg (by omega)] at c1 c2
        rw [c1, c2, if_pos qj]
      · rw [if_pos (by omega)] at c1 c2
        rw [c1, c2, if_neg qj, show 12 * u + j + 1 = 12 * u + (j + 1) by omega])
    have e5 : (fun j => if ut (12 * u + j) = x then (1 : Int) else 0) i = (fun j => if 1000 * r (309 + (12 * u + j)) + r (333 + (12 * u + j)) = x then (1 : Int) else 0) (fix r u nd t - 12 * u) := by
      show (if ut (12 * u + i) = x then (1 : Int) else 0) = (if 1000 * r (309 + (12 * u + (fix r u nd t - 12 * u))) + r (333 + (12 * u + (fix r u nd t - 12 * u))) = x then (1 : Int) else 0)
      rw [hx, show 12 * u + (fix r u nd t - 12 * u) = fix r u nd t by omega, f2.1, f2.2]
    refine (e3.trans e1).trans (Eq.trans ?_ (e4.trans e2).symm)
    exact congr (congrArg (fun (p q : Int) => p - q) hx0) e5
  · rw [if_neg q]
    have e1 := cf_ext (f := fun j => if fu ut (12 * w + i) (ut (12 * w + (r (307 + w) - 1))) (12 * u + j) = x then (1 : Int) else 0) (g := fun j => if ut (12 * u + j) = x then (1 : Int) else 0) (r (307 + u)).toNat (fun j j1 j2 => by
      show (if fu ut (12 * w + i) (ut (12 * w + (r (307 + w) - 1))) (12 * u + j) = x then (1 : Int) else 0) = _
      rw [fu_n (by omega)])
    have e2 := cf_ext (f := fun j => if 1000 * m_out r w nd t (309 + (12 * u + j)) + m_out r w nd t (333 + (12 * u + j)) = x then (1 : Int) else 0) (g := fun j => if 1000 * r (309 + (12 * u + j)) + r (333 + (12 * u + j)) = x then (1 : Int) else 0) (r (307 + u)).toNat (fun j j1 j2 => by
      show (if 1000 * m_out r w nd t (309 + (12 * u + j)) + m_out r w nd t (333 + (12 * u + j)) = x then (1 : Int) else 0) = _
      obtain ⟨c1, c2⟩ := out_c hw hA hf (j := 12 * u + j) (by omega)
      rw [if_neg (by omega)] at c1 c2
      rw [c1, c2])
    rw [e1, e2]; exact h x
theorem FX.ag {f g : Int → Int} (h : AG f g) {w nd t a : Int} (hw : 0 ≤ w ∧ w ≤ 1) (hx : FX g w nd t a) : FX f w nd t a := by
  obtain ⟨h1, h2, h3⟩ := hx
  refine ⟨by rw [h _ (by omega)]; exact h1, by rw [h _ (by omega), h _ (by omega)]; exact h2, fun x x1 x2 => by rw [h _ (by omega), h _ (by omega)]; exact h3 x x1 x2⟩
theorem AG.out {f g : Int → Int} (h : AG f g) {w nd t : Int} (hw : 0 ≤ w ∧ w ≤ 1) (hx : FX g w nd t (fix g w nd t)) : AG (m_out f w nd t) (m_out g w nd t) := by
  have e1 : fix f w nd t = fix g w nd t := fix_eq (hx.ag h hw)
  have e2 := h (307 + w) (by omega)
  intro i hi
  unfold m_out m_sf
  rw [e1, e2]
  have k := h.st (a := 307 + w) (x := g (307 + w) - 1) rfl rfl
  split
  · exact k _ (by have := hx.1; omega)
  · exact k _ hi

