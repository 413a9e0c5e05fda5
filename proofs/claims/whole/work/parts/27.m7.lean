/-! active pointstamps, the frontier -/
def onF (r : Int → Int) (w k : Int) : Prop := 0 < r (6359 + 16000 * w + k) ∧ ∀ j, 0 ≤ j → j < 16000 → ¬ j = k → 0 < r (6359 + 16000 * w + j) → ¬ Ld r (j / 1000) (j % 1000) (k / 1000) (k % 1000)
def aF (r : Int → Int) (w : Int) : Int → Int := fun k => if 0 < r (6359 + 16000 * w + k) then 1 else 0
noncomputable def oF (r : Int → Int) (w : Int) : Int → Int := fun k => bz (onF r w k)
def ActL (r : Int → Int) (w n : Int) (ac : Int → Int) (as : Int) : Prop := (0 ≤ as ∧ as ≤ n) ∧ as = cf (aF r w) n.toNat ∧ (∀ i, 0 ≤ i → i < as → (0 ≤ ac i ∧ ac i < n) ∧ 0 < r (6359 + 16000 * w + ac i)) ∧ (∀ i j, 0 ≤ i → i < j → j < as → ac i < ac j) ∧ (∀ k, 0 ≤ k → k < n → 0 < r (6359 + 16000 * w + k) → ∃ i, 0 ≤ i ∧ i < as ∧ ac i = k)
theorem ActL.zero (r : Int → Int) (w : Int) (ac : Int → Int) : ActL r w 0 ac 0 := ⟨by omega, rfl, fun i _ _ => by omega, fun i j _ _ _ => by omega, fun k _ _ => by omega⟩
theorem ActL.skip {r : Int → Int} {w n : Int} {ac : Int → Int} {as : Int} (h : ActL r w n ac as) (hn : 0 ≤ n) (h0 : r (6359 + 16000 * w + n) ≤ 0) : ActL r w (n + 1) ac as := by
  obtain ⟨a1, a2, a3, a4, a5⟩ := h
  refine ⟨by omega, ?_, fun i i1 i2 => ?_, a4, fun k k1 k2 k3 => ?_⟩
  · rw [show (n + 1).toNat = n.toNat + 1 by omega, cf, ← a2, aF, show ((n.toNat : Nat) : Int) = n by omega, if_neg (by omega)]; omega
  · have := a3 i i1 i2; exact ⟨by omega, this.2⟩
  · rcases (show k < n ∨ k = n by omega) with h | rfl
    · exact a5 k k1 h k3
    · omega
theorem ActL.push {r : Int → Int} {w n : Int} {ac : Int → Int} {as : Int} (h : ActL r w n ac as) (hn : 0 ≤ n) (h0 : 0 < r (6359 + 16000 * w + n)) : ActL r w (n + 1) (fu ac as n) (as + 1) := by
  obtain ⟨a1, a2, a3, a4, a5⟩ := h
  refine ⟨by omega, ?_, fun i i1 i2 => ?_, fun i j i1 i2 i3 => ?_, fun k k1 k2 k3 => ?_⟩
  · rw [show (n + 1).toNat = n.toNat + 1 by omega, cf, ← a2, aF, show ((n.toNat : Nat) : Int) = n by omega, if_pos h0]
  · by_cases hi : i = as
    · rw [hi, fu_s]; exact ⟨by omega, h0⟩
    · rw [fu_n hi]; have := a3 i i1 (by omega); exact ⟨by omega, this.2⟩
  · rw [fu_n (show i ≠ as by omega)]
    by_cases hj : j = as
    · rw [hj, fu_s]; exact (a3 i i1 (by omega)).1.2
    · rw [fu_n hj]; exact a4 i j i1 i2 (by omega)
  · rcases (show k < n ∨ k = n by omega) with h | rfl
    · obtain ⟨i, i1, i2, i3⟩ := a5 k k1 h k3
      exact ⟨i, i1, by omega, by rw [fu_n (by omega)]; exact i3⟩
    · exact ⟨as, by omega, by omega, fu_s⟩
def FP (r ac : Int → Int) (i j : Int) : Prop := ∀ x, 0 ≤ x → x < i → ¬ x = j → ¬ Ld r (ac x / 1000) (ac x % 1000) (ac j / 1000) (ac j % 1000)
theorem FP.z (r ac : Int → Int) (j : Int) : FP r ac 0 j := fun x h1 h2 => by omega
theorem FP.s {r ac : Int → Int} {i j : Int} (h : FP r ac i j) (hi : i = j ∨ ¬ Ld r (ac i / 1000) (ac i % 1000) (ac j / 1000) (ac j % 1000)) : FP r ac (i + 1) j := fun x h1 h2 h3 => by
  rcases (show x < i ∨ x = i by omega) with h4 | rfl
  · exact h x h1 h4 h3
  · exact hi.resolve_left h3
theorem FP.f {r ac : Int → Int} {i j : Int} (h : ¬ FP r ac i j) : ¬ FP r ac (i + 1) j := fun g => h fun x h1 h2 => g x h1 (by omega)
theorem FP.n {r ac : Int → Int} {i j : Int} (h0 : 0 ≤ i) (h1 : ¬ i = j) (h : Ld r (ac i / 1000) (ac i % 1000) (ac j / 1000) (ac j % 1000)) : ¬ FP r ac (i + 1) j := fun g => g i h0 (by omega) h1 h
theorem ActL.fp {r : Int → Int} {w : Int} {ac : Int → Int} {as : Int} (h : ActL r w 16000 ac as) {j : Int} (h1 : 0 ≤ j) (h2 : j < as) : FP r ac as j ↔ onF r w (ac j) := by
  obtain ⟨a1, a2, a3, a4, a5⟩ := h
  constructor
  · intro g
    refine ⟨(a3 j h1 h2).2, fun k k1 k2 k3 k4 hl => ?_⟩
    obtain ⟨i, i1, i2, rfl⟩ := a5 k k1 k2 k4
    exact g i i1 i2 (fun q => k3 (by rw [q])) hl
  · intro g x x1 x2 x3
    have := a3 x x1 x2
    refine g.2 (ac x) this.1.1 this.1.2 (fun q => ?_) this.2
    rcases (show x < j ∨ j < x by omega) with h | h
    · have := a4 x j x1 h h2; omega
    · have := a4 j x h1 h x2; omega
/-- the frontier is found -/
def FI (r : Int → Int) (w : Int) (ac fi : Int → Int) (as : Int) : Prop := ActL r w 16000 ac as ∧ ∀ j, 0 ≤ j → j < as → fi j = bz (onF r w (ac j))
theorem bz_ne0 {p : Prop} (h : ¬ bz p = 0) : p := by
  rcases bz_01 p with g | g
  · exact absurd g h
  · exact bz_1 g
theorem FI.on {r : Int → Int} {w : Int} {ac fi : Int → Int} {as : Int} (h : FI r w ac fi as) {s : Int} (h1 : 0 ≤ s) (h2 : s < 16000) : BE (fun i => ¬ fi i = 0 ∧ ac i = s) as ↔ onF r w s := by
  constructor
  · rintro ⟨i, i1, i2, i3, i4⟩
    rw [h.2 i i1 i2] at i3
    rw [← i4]; exact bz_ne0 i3
  · intro g
    obtain ⟨i, i1, i2, i3⟩ := h.1.2.2.2.2 s h1 h2 g.1
    refine ⟨i, i1, i2, ?_, i3⟩
    rw [h.2 i i1 i2, i3, bz_t g]; omega
theorem cf_flat {f : Int → Int} : ∀ (n m : Nat), n ≤ m → (∀ j : Int, n ≤ j → j < m → f j = 0) → cf f m = cf f n
  | n, 0, h, _ => by rw [show n = 0 by omega]
  | n, m + 1, h, g => by
    rcases (show n ≤ m ∨ n = m + 1 by omega) with h1 | h1
    · rw [cf, cf_flat n m h1 (fun j a b => g j a (by omega)), g m (by omega) (by omega)]; omega
    · rw [h1]
theorem cf_mono {f : Int → Int} (hf : ∀ j, 0 ≤ f j) : ∀ (n m : Nat), n ≤ m → cf f n ≤ cf f m
  | n, 0, h => by rw [show n = 0 by omega]; exact Int.le_refl _
  | n, m + 1, h => by
    rcases (show n ≤ m ∨ n = m + 1 by omega) with h1 | h1
    · have := cf_mono hf n m h1
      have := hf m
      rw [cf]; omega
    · rw [h1]; exact Int.le_refl _
theorem oF_nn (r : Int → Int) (w j : Int) : 0 ≤ oF r w j := by unfold oF; rcases bz_01 (onF r w j) with h | h <;> omega
theorem oF_none {r : Int → Int} {w : Int} {ac : Int → Int} {as : Int} (h : ActL r w 16000 ac as) {k : Int} (h1 : 0 ≤ k) (h2 : k < 16000) (hn : ∀ i, 0 ≤ i → i < as → ¬ ac i = k) : oF r w k = 0 := by
  unfold oF
  refine bz_f (fun g => ?_)
  obtain ⟨i, i1, i2, i3⟩ := h.2.2.2.2 k h1 h2 g.1
  exact hn i i1 i2 i3
/-- the place of a frontier's pointstamp in its order -/
theorem FI.rank {r : Int → Int} {w : Int} {ac fi : Int → Int} {as : Int} (h : FI r w ac fi as) : ∀ n : Nat, (n : Int) ≤ as → cf fi n = cf (oF r w) (if (n : Int) < as then ac n else 16000).toNat
  | 0, hn => by
    obtain ⟨a1, a2, a3, a4, a5⟩ := id h.1
    show (0 : Int) = cf (oF r w) (if (0 : Int) < as then ac 0 else 16000).toNat
    rw [cf_zero _ (fun j j1 j2 => ?_)]
    refine oF_none h.1 j1 ?_ (fun i i1 i2 i3 => ?_)
    · split at j2
      · have := (a3 0 (by omega) (by assumption)).1; omega
      · omega
    · split at j2
      · rcases (show i = 0 ∨ 0 < i by omega) with rfl | h5
        · have := (a3 0 (by omega) i2).1; omega
        · have := a4 0 i (by omega) h5 i2
          have := (a3 0 (by omega) (by omega)).1
          omega
      · omega
  | n + 1, hn => by
    obtain ⟨a1, a2, a3, a4, a5⟩ := id h.1
    have ih := h.rank n (by omega)
    rw [if_pos (by omega)] at ih
    have an := (a3 n (by omega) (by omega)).1
    rw [cf, ih, h.2 n (by omega) (by omega)]
    have e1 : cf (oF r w) ((ac n).toNat + 1) = cf (oF r w) (ac n).toNat + bz (onF r w (ac n)) := by
      rw [cf, show (((ac n).toNat : Nat) : Int) = ac n by omega]; rfl
    rw [← e1]
    symm
    refine cf_flat _ _ ?_ (fun j j1 j2 => ?_)
    · split
      · have := a4 n (n + 1 : Nat) (by omega) (by omega) (by omega)
        omega
      · omega
    · refine oF_none h.1 (by omega) ?_ (fun i i1 i2 i3 => ?_)
      · split at j2
        · have := (a3 (n + 1 : Nat) (by omega) (by omega)).1; omega
        · omega
      · rcases (show i < (n : Int) ∨ i = n ∨ (n : Int) < i by omega) with h5 | h5 | h5
        · have := a4 i n i1 h5 (by omega); omega
        · rw [h5] at i3; omega
        · split at j2
          · rcases (show i = ((n + 1 : Nat) : Int) ∨ ((n + 1 : Nat) : Int) < i by omega) with h6 | h6
            · rw [h6] at i3; omega
            · have := a4 (n + 1 : Nat) i (by omega) h6 i2; omega
          · omega
def FA (r : Int → Int) (w x v : Int) : Prop := (v = -1 ∧ ∀ k, 0 ≤ k → k < 16000 → onF r w k → ¬ cf (oF r w) k.toNat = x) ∨ ((0 ≤ v ∧ v < 16000) ∧ onF r w v ∧ cf (oF r w) v.toNat = x)
theorem FA.uniq {r : Int → Int} {w x u v : Int} (h : FA r w x u) (g : FA r w x v) : u = v := by
  rcases h with ⟨h1, h2⟩ | ⟨h1, h2, h3⟩ <;> rcases g with ⟨g1, g2⟩ | ⟨g1, g2, g3⟩
  · omega
  · exact absurd g3 (h2 v g1.1 g1.2 g2)
  · exact absurd h3 (g2 u h1.1 h1.2 h2)
  · have key : ∀ a b : Int, 0 ≤ a → a < b → onF r w a → cf (oF r w) a.toNat = x → cf (oF r w) b.toNat = x → False := by
      intro a b a1 a2 a3 a4 a5
      have e1 : cf (oF r w) (a.toNat + 1) = cf (oF r w) a.toNat + bz (onF r w a) := by
        rw [cf, show ((a.toNat : Nat) : Int) = a by omega]; rfl
      rw [bz_t a3] at e1
      have := cf_mono (oF_nn r w) (a.toNat + 1) b.toNat (by omega)
      omega
    rcases (show u < v ∨ u = v ∨ v < u by omega) with h | h | h
    · exact (key u v h1.1 h h2 h3 g3).elim
    · exact h
    · exact (key v u g1.1 h g2 g3 h3).elim
noncomputable def frAt (r : Int → Int) (w x : Int) : Int := @dite Int (∃ v, FA r w x v) (Classical.propDecidable _) (fun h => Classical.choose h) (fun _ => -1)
theorem frAt_eq {r : Int → Int} {w x v : Int} (h : FA r w x v) : frAt r w x = v := by
  have hx : ∃ v, FA r w x v := ⟨v, h⟩
  unfold frAt
  rw [dif_pos hx]
  exact (Classical.choose_spec hx).uniq h
/-- what was found among the first k active pointstamps -/
def FK (ac fi : Int → Int) (x k f : Int) : Prop := (f = -1 ∧ ∀ i, 0 ≤ i → i < k → ¬ fi i = 0 → ¬ cf fi i.toNat = x) ∨ (∃ i, (0 ≤ i ∧ i < k) ∧ ¬ fi i = 0 ∧ cf fi i.toNat = x ∧ f = ac i)
theorem FK.fin {r : Int → Int} {w : Int} {ac fi : Int → Int} {as x f : Int} (h : FI r w ac fi as) (g : FK ac fi x as f) : FA r w x f := by
  obtain ⟨a1, a2, a3, a4, a5⟩ := id h.1
  have key : ∀ i, 0 ≤ i → i < as → cf fi i.toNat = cf (oF r w) (ac i).toNat := fun i i1 i2 => by
    have := h.rank i.toNat (by omega)
    rw [show ((i.toNat : Nat) : Int) = i by omega, if_pos i2] at this
    exact this
  rcases g with ⟨g1, g2⟩ | ⟨i, i1, i2, i3, i4⟩
  · left
    refine ⟨g1, fun k k1 k2 k3 k4 => ?_⟩
    obtain ⟨i, i1, i2, rfl⟩ := a5 k k1 k2 k3.1
    exact g2 i i1 i2 (by rw [h.2 i i1 i2, bz_t k3]; omega) (by rw [key i i1 i2]; exact k4)
  · right
    rw [i4]
    refine ⟨(a3 i i1.1 i1.2).1, ?_, by rw [← key i i1.1 i1.2]; exact i3⟩
    rw [h.2 i i1.1 i1.2] at i2
    exact bz_ne0 i2
theorem FI.num {r : Int → Int} {w : Int} {ac fi : Int → Int} {as : Int} (h : FI r w ac fi as) : cf fi as.toNat = cf (oF r w) 16000 := by
  have a1 := h.1.1
  have := h.rank as.toNat (by omega)
  rw [if_neg (by omega)] at this
  exact this
/-- the least request that can be delivered, of those before hi -/
def NX (r : Int → Int) (w nd hi b : Int) : Prop := (b = -1 ∧ ∀ x, 12 * w ≤ x → x < hi → r (309 + x) = nd → ¬ onF r w (1000 * nd + r (333 + x))) ∨ ((0 ≤ b ∧ b ≤ 999) ∧ (∃ x, 12 * w ≤ x ∧ x < hi ∧ r (309 + x) = nd ∧ r (333 + x) = b ∧ onF r w (1000 * nd + r (333 + x))) ∧ ∀ x, 12 * w ≤ x → x < hi → r (309 + x) = nd → onF r w (1000 * nd + r (333 + x)) → b ≤ r (333 + x))
theorem NX.uniq {r : Int → Int} {w nd hi u v : Int} (h : NX r w nd hi u) (g : NX r w nd hi v) : u = v := by
  rcases h with ⟨h1, h2⟩ | ⟨h1, ⟨x, x1, x2, x3, x4, x5⟩, h3⟩ <;> rcases g with ⟨g1, g2⟩ | ⟨g1, ⟨y, y1, y2, y3, y4, y5⟩, g3⟩
  · omega
  · exact absurd y5 (h2 y y1 y2 y3)
  · exact absurd x5 (g2 x x1 x2 x3)
  · have := h3 y y1 y2 y3 y5
    have := g3 x x1 x2 x3 x5
    omega
noncomputable def nxt (r : Int → Int) (w nd : Int) : Int := @dite Int (∃ v, NX r w nd (12 * w + r (307 + w)) v) (Classical.propDecidable _) (fun h => Classical.choose h) (fun _ => -1)
theorem nxt_eq {r : Int → Int} {w nd v : Int} (h : NX r w nd (12 * w + r (307 + w)) v) : nxt r w nd = v := by
  have hx : ∃ v, NX r w nd (12 * w + r (307 + w)) v := ⟨v, h⟩
  unfold nxt
  rw [dif_pos hx]
  exact (Classical.choose_spec hx).uniq h
theorem NX.rg {r : Int → Int} {w nd hi b : Int} (h : NX r w nd hi b) : -1 ≤ b ∧ b ≤ 999 := by
  rcases h with h | h
  · have := h.1; omega
  · have := h.1; omega
theorem NX.z (r : Int → Int) (w nd : Int) : NX r w nd (12 * w) (-1) := Or.inl ⟨rfl, fun x h1 h2 => by omega⟩
theorem NX.keep {r : Int → Int} {w nd hi b : Int} (h : NX r w nd hi b) (hk : r (309 + hi) = nd → onF r w (1000 * nd + r (333 + hi)) → ¬ b = -1 ∧ b ≤ r (333 + hi)) : NX r w nd (hi + 1) b := by
  rcases h with ⟨h1, h2⟩ | ⟨h1, ⟨x, x1, x2, x3, x4, x5⟩, h3⟩
  · left
    refine ⟨h1, fun y y1 y2 y3 y4 => ?_⟩
    rcases (show y < hi ∨ y = hi by omega) with h | rfl
    · exact h2 y y1 h y3 y4
    · exact (hk y3 y4).1 h1
  · right
    refine ⟨h1, ⟨x, x1, by omega, x3, x4, x5⟩, fun y y1 y2 y3 y4 => ?_⟩
    rcases (show y < hi ∨ y = hi by omega) with h | rfl
    · exact h3 y y1 h y3 y4
    · exact (hk y3 y4).2
theorem NX.take {r : Int → Int} {w nd hi b : Int} (h : NX r w nd hi b) (h0 : 12 * w ≤ hi) (ht : 0 ≤ r (333 + hi) ∧ r (333 + hi) ≤ 999) (h1 : r (309 + hi) = nd) (h2 : onF r w (1000 * nd + r (333 + hi))) (hb : b = -1 ∨ r (333 + hi) < b) : NX r w nd (hi + 1) (r (333 + hi)) := by
  right
  refine ⟨ht, ⟨hi, h0, by omega, h1, rfl, h2⟩, fun y y1 y2 y3 y4 => ?_⟩
  rcases (show y < hi ∨ y = hi by omega) with h5 | rfl
  · rcases h with ⟨g1, g2⟩ | ⟨g1, g2, g3⟩
    · exact absurd y4 (g2 y y1 h5 y3)
    · have := g3 y y1 h5 y3 y4
      omega
  · exact Int.le_refl _
def AT (r : Int → Int) : Prop := ∀ x, 0 ≤ x → x < 24 → 0 ≤ r (333 + x) ∧ r (333 + x) ≤ 999
noncomputable def sp_active (σ : St) (w : Int) : Int × St := pif (0 ≤ w ∧ w ≤ 1) (cf (aF σ.1 w) 16000, σ) (sp_fail σ (-2))
noncomputable def sp_frontier (σ : St) (w x : Int) : Int × St := pif ((0 ≤ w ∧ w ≤ 1) ∧ -1 ≤ x) (if x = -1 then cf (oF σ.1 w) 16000 else frAt σ.1 w x, σ) (sp_fail σ (-2))
noncomputable def sp_deliverable (σ : St) (w n : Int) : Int × St := pif ((0 ≤ w ∧ w ≤ 1) ∧ 0 ≤ n ∧ n ≤ σ.1 0 - 1) (nxt σ.1 w n, σ) (sp_fail σ (-2))
set_option maxRecDepth 100000 in
set_option maxHeartbeats 4000000 in
theorem c_X8_couldResultIn {X : Hp} {ad : Nat → Nat} {r pf : Int → Int} {sv : Int} {er sn lw rc wt : Int → Int} {wg : Int} {ls ac fi : Int → Int} {as : Int} {hh : Int64} (hM : MM X ad r pf sv er sn lw rc wt wg ls ac fi as hh) {a t b u : Int} (hG : GI r) (hE : EI er) (h_a : -2147483648 ≤ a ∧ a ≤ 2147483647) (h_t : -2147483648 ≤ t ∧ t ≤ 2147483647) (h_b : -2147483648 ≤ b ∧ b ≤ 2147483647) (h_u : -2147483648 ≤ u ∧ u ≤ 2147483647) : Ct yX8_couldResultIn cX8_couldResultIn 5 (some .int) 3 73 [.ref (ad 0), vi a, vi t, vi b, vi u] X 0 0 (fun rv X' => rv = some (vi (sp_couldResultIn (r, pf, sv, er) a t b u).1) ∧ MX X X' ad (sp_couldResultIn (r, pf, sv, er) a t b u).2) := by
  refine Ct.of (by decide +kernel) [some (.ref (ad 0)), some (vi a), some (vi t), some (vi b), some (vi u)] rfl (Nat.le_of_ble_eq_true rfl) (fun φ hF hR => ?_)
  have hM := hM.g
  refine j_aload_n hF dX8_couldResultIn_0 rfl (j_iload_n hF dX8_couldResultIn_1 rfl (j_callV hF (c_X8_isPlace hM.1 hG (by omega)) ms_X8_isPlace mv_X8_isPlace lk_RX8_101 dX8_couldResultIn_2 hM.1.1 rfl rfl rfl (by simp [Value.category]) ⟨⟨(Nat.le_of_ble_eq_true rfl), (Nat.le_of_ble_eq_true rfl)⟩, by omega, by omega⟩ (fun v1 X1 hp1 hE1 => ?_)))
  obtain ⟨rfl, he1⟩ := hp1; obtain rfl := he1.symm
  refine j_b_eq hF 35 dX8_couldResultIn_5 (by decide) (fun c5 => ?_) (fun c5 => ?_)
  ·
    refine j_aload_n hF dX8_couldResultIn_35 rfl (j_bipush hF dX8_couldResultIn_36 (by decide) (j_callV hF (c_X8_fails hM.1 (by omega) hE) ms_X8_fails mv_X8_fails lk_RX8_52 dX8_couldResultIn_38 hM.1.1 rfl rfl rfl (by simp [Value.category]) ⟨⟨(Nat.le_of_ble_eq_true rfl), (Nat.le_of_ble_eq_true rfl)⟩, by omega, by omega⟩ (fun v2 X2 hp2 hE2 => ?_)))
    obtain ⟨rfl, hM1⟩ := hp2
    have hM := hM.tr hM1
    refine j_iret hF hR dX8_couldResultIn_41 (by omega) (by omega) ?_
    refine PU ?_ (MX.of hM)
    unfold sp_couldResultIn
    first | (refine (pif_t ⟨⟨⟨c5, c13⟩, c22⟩, c32⟩).trans ?_; rw [bz_t (ld.mpr ⟨c60, c70, c84⟩)]) | (refine (pif_t ⟨⟨⟨c5, c13⟩, c22⟩, c32⟩).trans ?_; rw [bz_f (fun h => absurd (ld.mp h).2.2 (Int.not_le.mpr c84))]) | (refine (pif_t ⟨⟨⟨c5, c13⟩, c22⟩, c32⟩).trans ?_; rw [bz_f (fun h => (ld.mp h).2.1 c70)]) | (refine (pif_t ⟨⟨⟨c5, c13⟩, c22⟩, c32⟩).trans ?_; rw [bz_f (fun h => absurd (ld.mp h).1 (Int.not_le.mpr c60))]) | exact pif_f (fun h => c5 h.1.1.1) | exact pif_f (fun h => c13 h.1.1.2) | exact pif_f (fun h => c22 h.1.2) | exact pif_f (fun h => c32 h.2)
  ·
    have pa := m_place_rg hG c5
    refine j_aload_n hF dX8_couldResultIn_8 rfl (j_iload_n hF dX8_couldResultIn_9 rfl (j_callV hF (c_X8_isPlace hM.1 hG (by omega)) ms_X8_isPlace mv_X8_isPlace lk_RX8_101 dX8_couldResultIn_10 hM.1.1 rfl rfl rfl (by simp [Value.category]) ⟨⟨(Nat.le_of_ble_eq_true rfl), (Nat.le_of_ble_eq_true rfl)⟩, by omega, by omega⟩ (fun v3 X3 hp3 hE3 => ?_)))
    obtain ⟨rfl, he3⟩ := hp3; obtain rfl := he3.symm
    refine j_b_eq hF 35 dX8_couldResultIn_13 (by decide) (fun c13 => ?_) (fun c13 => ?_)
    ·
      refine j_aload_n hF dX8_couldResultIn_35 rfl (j_bipush hF dX8_couldResultIn_36 (by decide) (j_callV hF (c_X8_fails hM.1 (by omega) hE) ms_X8_fails mv_X8_fails lk_RX8_52 dX8_couldResultIn_38 hM.1.1 rfl rfl rfl (by simp [Value.category]) ⟨⟨(Nat.le_of_ble_eq_true rfl), (Nat.le_of_ble_eq_true rfl)⟩, by omega, by omega⟩ (fun v4 X4 hp4 hE4 => ?_)))
      obtain ⟨rfl, hM1⟩ := hp4
      have hM := hM.tr hM1
      refine j_iret hF hR dX8_couldResultIn_41 (by omega) (by omega) ?_
      refine PU ?_ (MX.of hM)
      unfold sp_couldResultIn
      first | (refine (pif_t ⟨⟨⟨c5, c13⟩, c22⟩, c32⟩).trans ?_; rw [bz_t (ld.mpr ⟨c60, c70, c84⟩)]) | (refine (pif_t ⟨⟨⟨c5, c13⟩, c22⟩, c32⟩).trans ?_; rw [bz_f (fun h => absurd (ld.mp h).2.2 (Int.not_le.mpr c84))]) | (refine (pif_t ⟨⟨⟨c5, c13⟩, c22⟩, c32⟩).trans ?_; rw [bz_f (fun h => (ld.mp h).2.1 c70)]) | (refine (pif_t ⟨⟨⟨c5, c13⟩, c22⟩, c32⟩).trans ?_; rw [bz_f (fun h => absurd (ld.mp h).1 (Int.not_le.mpr c60))]) | exact pif_f (fun h => c5 h.1.1.1) | exact pif_f (fun h => c13 h.1.1.2) | exact pif_f (fun h => c22 h.1.2) | exact pif_f (fun h => c32 h.2)
    ·
      have pb := m_place_rg hG c13
      refine j_aload_n hF dX8_couldResultIn_16 rfl (j_iload_n hF dX8_couldResultIn_17 rfl (j_iload_n hF dX8_couldResultIn_18 rfl (j_callV hF (c_X8_isTime hM.1 hG (by omega) (by omega)) ms_X8_isTime mv_X8_isTime lk_RX8_86 dX8_couldResultIn_19 hM.1.1 rfl rfl rfl (by simp [Value.category]) ⟨⟨(Nat.le_of_ble_eq_true rfl), (Nat.le_of_ble_eq_true rfl)⟩, by omega, by omega⟩ (fun v5 X5 hp5 hE5 => ?_))))
      obtain ⟨rfl, he5⟩ := hp5; obtain rfl := he5.symm
      refine j_b_eq hF 35 dX8_couldResultIn_22 (by decide) (fun c22 => ?_) (fun c22 => ?_)
      ·
        refine j_aload_n hF dX8_couldResultIn_35 rfl (j_bipush hF dX8_couldResultIn_36 (by decide) (j_callV hF (c_X8_fails hM.1 (by omega) hE) ms_X8_fails mv_X8_fails lk_RX8_52 dX8_couldResultIn_38 hM.1.1 rfl rfl rfl (by simp [Value.category]) ⟨⟨(Nat.le_of_ble_eq_true rfl), (Nat.le_of_ble_eq_true rfl)⟩, by omega, by omega⟩ (fun v6 X6 hp6 hE6 => ?_)))
        obtain ⟨rfl, hM1⟩ := hp6
        have hM := hM.tr hM1
        refine j_iret hF hR dX8_couldResultIn_41 (by omega) (by omega) ?_
        refine PU ?_ (MX.of hM)
        unfold sp_couldResultIn
        first | (refine (pif_t ⟨⟨⟨c5, c13⟩, c22⟩, c32⟩).trans ?_; rw [bz_t (ld.mpr ⟨c60, c70, c84⟩)]) | (refine (pif_t ⟨⟨⟨c5, c13⟩, c22⟩, c32⟩).trans ?_; rw [bz_f (fun h => absurd (ld.mp h).2.2 (Int.not_le.mpr c84))]) | (refine (pif_t ⟨⟨⟨c5, c13⟩, c22⟩, c32⟩).trans ?_; rw [bz_f (fun h => (ld.mp h).2.1 c70)]) | (refine (pif_t ⟨⟨⟨c5, c13⟩, c22⟩, c32⟩).trans ?_; rw [bz_f (fun h => absurd (ld.mp h).1 (Int.not_le.mpr c60))]) | exact pif_f (fun h => c5 h.1.1.1) | exact pif_f (fun h => c13 h.1.1.2) | exact pif_f (fun h => c22 h.1.2) | exact pif_f (fun h => c32 h.2)
      ·
        have ta := c22.1
        refine j_aload_n hF dX8_couldResultIn_25 rfl (j_iload_n hF dX8_couldResultIn_26 rfl (j_iload hF dX8_couldResultIn_27 rfl (j_callV hF (c_X8_isTime hM.1 hG (by omega) (by omega)) ms_X8_isTime mv_X8_isTime lk_RX8_86 dX8_couldResultIn_29 hM.1.1 rfl rfl rfl (by simp [Value.category]) ⟨⟨(Nat.le_of_ble_eq_true rfl), (Nat.le_of_ble_eq_true rfl)⟩, by omega, by omega⟩ (fun v7 X7 hp7 hE7 => ?_))))
        obtain ⟨rfl, he7⟩ := hp7; obtain rfl := he7.symm
        refine j_b_ne hF 42 dX8_couldResultIn_32 (by decide) (fun c32 => ?_) (fun c32 => ?_)
        ·
          have tb := c32.1
          refine j_aload_n hF dX8_couldResultIn_42 rfl (j_iload_n hF dX8_couldResultIn_43 rfl (j_iload_n hF dX8_couldResultIn_44 rfl (j_bipush hF dX8_couldResultIn_45 (by decide) (j_irem hF dX8_couldResultIn_47 (by omega) (j_callV hF (c_X8_goes hM.1 hG (by omega) (by omega)) ms_X8_goes mv_X8_goes lk_RX8_104 dX8_couldResultIn_48 hM.1.1 rfl rfl rfl (by simp [Value.category]) ⟨⟨(Nat.le_of_ble_eq_true rfl), (Nat.le_of_ble_eq_true rfl)⟩, by omega, by omega⟩ (fun v8 X8 hp8 hE8 => ?_))))))
          obtain ⟨rfl, rc8, wt8, wg8, ls8, hM1, hL⟩ := hp8
          have hM := hM.tr hM1
          have hb_ := hL b pb.1 pb.2
          have ld := hb_.ld (u := u)
          refine j_iload_n hF dX8_couldResultIn_51 rfl (j_bipush hF dX8_couldResultIn_52 (by decide) (j_idiv hF dX8_couldResultIn_54 (by omega) (j_iload hF dX8_couldResultIn_55 rfl (j_bipush hF dX8_couldResultIn_57 (by decide) (j_idiv hF dX8_couldResultIn_59 (by omega) ?_)))))
          refine j_icmp_gt hF 91 dX8_couldResultIn_60 (by decide) (by omega) (fun c60 => ?_) (fun c60 => ?_)
          ·
            refine j_iconst hF dX8_couldResultIn_91 (j_iret hF hR dX8_couldResultIn_92 (by omega) (by omega) ?_)
            refine PU ?_ (MX.of hM)
            unfold sp_couldResultIn
            first | (refine (pif_t ⟨⟨⟨c5, c13⟩, c22⟩, c32⟩).trans ?_; rw [bz_t (ld.mpr ⟨c60, c70, c84⟩)]) | (refine (pif_t ⟨⟨⟨c5, c13⟩, c22⟩, c32⟩).trans ?_; rw [bz_f (fun h => absurd (ld.mp h).2.2 (Int.not_le.mpr c84))]) | (refine (pif_t ⟨⟨⟨c5, c13⟩, c22⟩, c32⟩).trans ?_; rw [bz_f (fun h => (ld.mp h).2.1 c70)]) | (refine (pif_t ⟨⟨⟨c5, c13⟩, c22⟩, c32⟩).trans ?_; rw [bz_f (fun h => absurd (ld.mp h).1 (Int.not_le.mpr c60))]) | exact pif_f (fun h => c5 h.1.1.1) | exact pif_f (fun h => c13 h.1.1.2) | exact pif_f (fun h => c22 h.1.2) | exact pif_f (fun h => c32 h.2)
          ·
            refine j_aload_n hF dX8_couldResultIn_63 rfl (j_get hF hM.1.1 fl_RX8_34 dX8_couldResultIn_64 rfl (j_iload_n hF dX8_couldResultIn_67 rfl (j_iald hF hM.1.2.2.2.2.2.2.2.2.1 dX8_couldResultIn_68 (by omega) (fun ra9 rb9 => ?_))))
            refine j_iconst hF dX8_couldResultIn_69 (j_icmp_eq hF 91 dX8_couldResultIn_70 (by decide) (by omega) (fun c70 => ?_) (fun c70 => ?_))
            ·
              refine j_iconst hF dX8_couldResultIn_91 (j_iret hF hR dX8_couldResultIn_92 (by omega) (by omega) ?_)
              refine PU ?_ (MX.of hM)
              unfold sp_couldResultIn
              first | (refine (pif_t ⟨⟨⟨c5, c13⟩, c22⟩, c32⟩).trans ?_; rw [bz_t (ld.mpr ⟨c60, c70, c84⟩)]) | (refine (pif_t ⟨⟨⟨c5, c13⟩, c22⟩, c32⟩).trans ?_; rw [bz_f (fun h => absurd (ld.mp h).2.2 (Int.not_le.mpr c84))]) | (refine (pif_t ⟨⟨⟨c5, c13⟩, c22⟩, c32⟩).trans ?_; rw [bz_f (fun h => (ld.mp h).2.1 c70)]) | (refine (pif_t ⟨⟨⟨c5, c13⟩, c22⟩, c32⟩).trans ?_; rw [bz_f (fun h => absurd (ld.mp h).1 (Int.not_le.mpr c60))]) | exact pif_f (fun h => c5 h.1.1.1) | exact pif_f (fun h => c13 h.1.1.2) | exact pif_f (fun h => c22 h.1.2) | exact pif_f (fun h => c32 h.2)
            ·
              refine j_aload_n hF dX8_couldResultIn_73 rfl (j_get hF hM.1.1 fl_RX8_34 dX8_couldResultIn_74 rfl (j_iload_n hF dX8_couldResultIn_77 rfl (j_iald hF hM.1.2.2.2.2.2.2.2.2.1 dX8_couldResultIn_78 (by omega) (fun ra10 rb10 => ?_))))
              refine j_iload hF dX8_couldResultIn_79 rfl (j_bipush hF dX8_couldResultIn_81 (by decide) (j_irem hF dX8_couldResultIn_83 (by omega) (j_icmp_gt hF 91 dX8_couldResultIn_84 (by decide) (by omega) (fun c84 => ?_) (fun c84 => ?_))))
              ·
                refine j_iconst hF dX8_couldResultIn_91 (j_iret hF hR dX8_couldResultIn_92 (by omega) (by omega) ?_)
                refine PU ?_ (MX.of hM)
                unfold sp_couldResultIn
                first | (refine (pif_t ⟨⟨⟨c5, c13⟩, c22⟩, c32⟩).trans ?_; rw [bz_t (ld.mpr ⟨c60, c70, c84⟩)]) | (refine (pif_t ⟨⟨⟨c5, c13⟩, c22⟩, c32⟩).trans ?_; rw [bz_f (fun h => absurd (ld.mp h).2.2 (Int.not_le.mpr c84))]) | (refine (pif_t ⟨⟨⟨c5, c13⟩, c22⟩, c32⟩).trans ?_; rw [bz_f (fun h => (ld.mp h).2.1 c70)]) | (refine (pif_t ⟨⟨⟨c5, c13⟩, c22⟩, c32⟩).trans ?_; rw [bz_f (fun h => absurd (ld.mp h).1 (Int.not_le.mpr c60))]) | exact pif_f (fun h => c5 h.1.1.1) | exact pif_f (fun h => c13 h.1.1.2) | exact pif_f (fun h => c22 h.1.2) | exact pif_f (fun h => c32 h.2)
              ·
                refine j_iconst hF dX8_couldResultIn_87 (j_goto hF 92 dX8_couldResultIn_88 (by decide) (j_iret hF hR dX8_couldResultIn_92 (by omega) (by omega) ?_))
                refine PU ?_ (MX.of hM)
                unfold sp_couldResultIn
                first | (refine (pif_t ⟨⟨⟨c5, c13⟩, c22⟩, c32⟩).trans ?_; rw [bz_t (ld.mpr ⟨c60, c70, c84⟩)]) | (refine (pif_t ⟨⟨⟨c5, c13⟩, c22⟩, c32⟩).trans ?_; rw [bz_f (fun h => absurd (ld.mp h).2.2 (Int.not_le.mpr c84))]) | (refine (pif_t ⟨⟨⟨c5, c13⟩, c22⟩, c32⟩).trans ?_; rw [bz_f (fun h => (ld.mp h).2.1 c70)]) | (refine (pif_t ⟨⟨⟨c5, c13⟩, c22⟩, c32⟩).trans ?_; rw [bz_f (fun h => absurd (ld.mp h).1 (Int.not_le.mpr c60))]) | exact pif_f (fun h => c5 h.1.1.1) | exact pif_f (fun h => c13 h.1.1.2) | exact pif_f (fun h => c22 h.1.2) | exact pif_f (fun h => c32 h.2)
        ·
          refine j_aload_n hF dX8_couldResultIn_35 rfl (j_bipush hF dX8_couldResultIn_36 (by decide) (j_callV hF (c_X8_fails hM.1 (by omega) hE) ms_X8_fails mv_X8_fails lk_RX8_52 dX8_couldResultIn_38 hM.1.1 rfl rfl rfl (by simp [Value.category]) ⟨⟨(Nat.le_of_ble_eq_true rfl), (Nat.le_of_ble_eq_true rfl)⟩, by omega, by omega⟩ (fun v11 X11 hp11 hE11 => ?_)))
          obtain ⟨rfl, hM1⟩ := hp11
          have hM := hM.tr hM1
          refine j_iret hF hR dX8_couldResultIn_41 (by omega) (by omega) ?_
          refine PU ?_ (MX.of hM)
          unfold sp_couldResultIn
          first | (refine (pif_t ⟨⟨⟨c5, c13⟩, c22⟩, c32⟩).trans ?_; rw [bz_t (ld.mpr ⟨c60, c70, c84⟩)]) | (refine (pif_t ⟨⟨⟨c5, c13⟩, c22⟩, c32⟩).trans ?_; rw [bz_f (fun h => absurd (ld.mp h).2.2 (Int.not_le.mpr c84))]) | (refine (pif_t ⟨⟨⟨c5, c13⟩, c22⟩, c32⟩).trans ?_; rw [bz_f (fun h => (ld.mp h).2.1 c70)]) | (refine (pif_t ⟨⟨⟨c5, c13⟩, c22⟩, c32⟩).trans ?_; rw [bz_f (fun h => absurd (ld.mp h).1 (Int.not_le.mpr c60))]) | exact pif_f (fun h => c5 h.1.1.1) | exact pif_f (fun h => c13 h.1.1.2) | exact pif_f (fun h => c22 h.1.2) | exact pif_f (fun h => c32 h.2)

set_option maxRecDepth 100000 in
set_option maxHeartbeats 4000000 in
theorem c_X8_earliest {X : Hp} {ad : Nat → Nat} {r pf : Int → Int} {sv : Int} {er sn lw rc wt : Int → Int} {wg : Int} {ls ac fi : Int → Int} {as : Int} {hh : Int64} (hM : MM X ad r pf sv er sn lw rc wt wg ls ac fi as hh) {a t b : Int} (hG : GI r) (hE : EI er) (h_a : -2147483648 ≤ a ∧ a ≤ 2147483647) (h_t : -2147483648 ≤ t ∧ t ≤ 2147483647) (h_b : -2147483648 ≤ b ∧ b ≤ 2147483647) : Ct yX8_earliest cX8_earliest 4 (some .int) 3 73 [.ref (ad 0), vi a, vi t, vi b] X 0 0 (fun rv X' => rv = some (vi (sp_earliest (r, pf, sv, er) a t b).1) ∧ MX X X' ad (sp_earliest (r, pf, sv, er) a t b).2) := by
  refine Ct.of (by decide +kernel) [some (.ref (ad 0)), some (vi a), some (vi t), some (vi b)] rfl (Nat.le_of_ble_eq_true rfl) (fun φ hF hR => ?_)
  have hM := hM.g
  refine j_aload_n hF dX8_earliest_0 rfl (j_iload_n hF dX8_earliest_1 rfl (j_callV hF (c_X8_isPlace hM.1 hG (by omega)) ms_X8_isPlace mv_X8_isPlace lk_RX8_101 dX8_earliest_2 hM.1.1 rfl rfl rfl (by simp [Value.category]) ⟨⟨(Nat.le_of_ble_eq_true rfl), (Nat.le_of_ble_eq_true rfl)⟩, by omega, by omega⟩ (fun v1 X1 hp1 hE1 => ?_)))
  obtain ⟨rfl, he1⟩ := hp1; obtain rfl := he1.symm
  refine j_b_eq hF 25 dX8_earliest_5 (by decide) (fun c5 => ?_) (fun c5 => ?_)
  ·
    refine j_aload_n hF dX8_earliest_25 rfl (j_bipush hF dX8_earliest_26 (by decide) (j_callV hF (c_X8_fails hM.1 (by omega) hE) ms_X8_fails mv_X8_fails lk_RX8_52 dX8_earliest_28 hM.1.1 rfl rfl rfl (by simp [Value.category]) ⟨⟨(Nat.le_of_ble_eq_true rfl), (Nat.le_of_ble_eq_true rfl)⟩, by omega, by omega⟩ (fun v2 X2 hp2 hE2 => ?_)))
    obtain ⟨rfl, hM1⟩ := hp2
    have hM := hM.tr hM1
    refine j_iret hF hR dX8_earliest_31 (by omega) (by omega) ?_
    refine PU ?_ (MX.of hM)
    unfold sp_earliest
    first | (refine (pif_t ⟨⟨c5, c13⟩, c22⟩).trans ?_; dsimp only; rw [el, if_pos c48]) | (refine (pif_t ⟨⟨c5, c13⟩, c22⟩).trans ?_; dsimp only; rw [el, if_neg c48]) | exact pif_f (fun h => c5 h.1.1) | exact pif_f (fun h => c13 h.1.2) | exact pif_f (fun h => c22 h.2)
  ·
    have pa := m_place_rg hG c5
    refine j_aload_n hF dX8_earliest_8 rfl (j_iload_n hF dX8_earliest_9 rfl (j_callV hF (c_X8_isPlace hM.1 hG (by omega)) ms_X8_isPlace mv_X8_isPlace lk_RX8_101 dX8_earliest_10 hM.1.1 rfl rfl rfl (by simp [Value.category]) ⟨⟨(Nat.le_of_ble_eq_true rfl), (Nat.le_of_ble_eq_true rfl)⟩, by omega, by omega⟩ (fun v3 X3 hp3 hE3 => ?_)))
    obtain ⟨rfl, he3⟩ := hp3; obtain rfl := he3.symm
    refine j_b_eq hF 25 dX8_earliest_13 (by decide) (fun c13 => ?_) (fun c13 => ?_)
    ·
      refine j_aload_n hF dX8_earliest_25 rfl (j_bipush hF dX8_earliest_26 (by decide) (j_callV hF (c_X8_fails hM.1 (by omega) hE) ms_X8_fails mv_X8_fails lk_RX8_52 dX8_earliest_28 hM.1.1 rfl rfl rfl (by simp [Value.category]) ⟨⟨(Nat.le_of_ble_eq_true rfl), (Nat.le_of_ble_eq_true rfl)⟩, by omega, by omega⟩ (fun v4 X4 hp4 hE4 => ?_)))
      obtain ⟨rfl, hM1⟩ := hp4
      have hM := hM.tr hM1
      refine j_iret hF hR dX8_earliest_31 (by omega) (by omega) ?_
      refine PU ?_ (MX.of hM)
      unfold sp_earliest
      first | (refine (pif_t ⟨⟨c5, c13⟩, c22⟩).trans ?_; dsimp only; rw [el, if_pos c48]) | (refine (pif_t ⟨⟨c5, c13⟩, c22⟩).trans ?_; dsimp only; rw [el, if_neg c48]) | exact pif_f (fun h => c5 h.1.1) | exact pif_f (fun h => c13 h.1.2) | exact pif_f (fun h => c22 h.2)
    ·
      have pb := m_place_rg hG c13
      refine j_aload_n hF dX8_earliest_16 rfl (j_iload_n hF dX8_earliest_17 rfl (j_iload_n hF dX8_earliest_18 rfl (j_callV hF (c_X8_isTime hM.1 hG (by omega) (by omega)) ms_X8_isTime mv_X8_isTime lk_RX8_86 dX8_earliest_19 hM.1.1 rfl rfl rfl (by simp [Value.category]) ⟨⟨(Nat.le_of_ble_eq_true rfl), (Nat.le_of_ble_eq_true rfl)⟩, by omega, by omega⟩ (fun v5 X5 hp5 hE5 => ?_))))
      obtain ⟨rfl, he5⟩ := hp5; obtain rfl := he5.symm
      refine j_b_ne hF 32 dX8_earliest_22 (by decide) (fun c22 => ?_) (fun c22 => ?_)
      ·
        have ta := c22.1
        refine j_aload_n hF dX8_earliest_32 rfl (j_iload_n hF dX8_earliest_33 rfl (j_iload_n hF dX8_earliest_34 rfl (j_bipush hF dX8_earliest_35 (by decide) (j_irem hF dX8_earliest_37 (by omega) (j_callV hF (c_X8_goes hM.1 hG (by omega) (by omega)) ms_X8_goes mv_X8_goes lk_RX8_104 dX8_earliest_38 hM.1.1 rfl rfl rfl (by simp [Value.category]) ⟨⟨(Nat.le_of_ble_eq_true rfl), (Nat.le_of_ble_eq_true rfl)⟩, by omega, by omega⟩ (fun v6 X6 hp6 hE6 => ?_))))))
        obtain ⟨rfl, rc6, wt6, wg6, ls6, hM1, hL⟩ := hp6
        have hM := hM.tr hM1
        have hb_ := hL b pb.1 pb.2
        have el := lst_eq hb_
        refine j_aload_n hF dX8_earliest_41 rfl (j_get hF hM.1.1 fl_RX8_34 dX8_earliest_42 rfl (j_iload_n hF dX8_earliest_45 rfl (j_iald hF hM.1.2.2.2.2.2.2.2.2.1 dX8_earliest_46 (by omega) (fun ra7 rb7 => ?_))))
        refine j_iconst hF dX8_earliest_47 (j_icmp_ne hF 55 dX8_earliest_48 (by decide) (by omega) (fun c48 => ?_) (fun c48 => ?_))
        ·
          refine j_iload_n hF dX8_earliest_55 rfl (j_iload_n hF dX8_earliest_56 rfl (j_bipush hF dX8_earliest_57 (by decide) (j_irem hF dX8_earliest_59 (by omega) (j_isub hF dX8_earliest_60 (j_aload_n hF dX8_earliest_61 rfl ?_)))))
          refine j_get hF hM.1.1 fl_RX8_34 dX8_earliest_62 rfl (j_iload_n hF dX8_earliest_65 rfl (j_iald hF hM.1.2.2.2.2.2.2.2.2.1 dX8_earliest_66 (by omega) (fun ra8 rb8 => ?_)))
          refine j_iadd hF dX8_earliest_67 (j_iret hF hR dX8_earliest_68 (by omega) (by omega) ?_)
          refine PU ?_ (MX.of hM)
          unfold sp_earliest
          first | (refine (pif_t ⟨⟨c5, c13⟩, c22⟩).trans ?_; dsimp only; rw [el, if_pos c48]) | (refine (pif_t ⟨⟨c5, c13⟩, c22⟩).trans ?_; dsimp only; rw [el, if_neg c48]) | exact pif_f (fun h => c5 h.1.1) | exact pif_f (fun h => c13 h.1.2) | exact pif_f (fun h => c22 h.2)
        ·
          refine j_iconst hF dX8_earliest_51 (j_goto hF 68 dX8_earliest_52 (by decide) (j_iret hF hR dX8_earliest_68 (by omega) (by omega) ?_))
          refine PU ?_ (MX.of hM)
          unfold sp_earliest
          first | (refine (pif_t ⟨⟨c5, c13⟩, c22⟩).trans ?_; dsimp only; rw [el, if_pos c48]) | (refine (pif_t ⟨⟨c5, c13⟩, c22⟩).trans ?_; dsimp only; rw [el, if_neg c48]) | exact pif_f (fun h => c5 h.1.1) | exact pif_f (fun h => c13 h.1.2) | exact pif_f (fun h => c22 h.2)
      ·
        refine j_aload_n hF dX8_earliest_25 rfl (j_bipush hF dX8_earliest_26 (by decide) (j_callV hF (c_X8_fails hM.1 (by omega) hE) ms_X8_fails mv_X8_fails lk_RX8_52 dX8_earliest_28 hM.1.1 rfl rfl rfl (by simp [Value.category]) ⟨⟨(Nat.le_of_ble_eq_true rfl), (Nat.le_of_ble_eq_true rfl)⟩, by omega, by omega⟩ (fun v9 X9 hp9 hE9 => ?_)))
        obtain ⟨rfl, hM1⟩ := hp9
        have hM := hM.tr hM1
        refine j_iret hF hR dX8_earliest_31 (by omega) (by omega) ?_
        refine PU ?_ (MX.of hM)
        unfold sp_earliest
        first | (refine (pif_t ⟨⟨c5, c13⟩, c22⟩).trans ?_; dsimp only; rw [el, if_pos c48]) | (refine (pif_t ⟨⟨c5, c13⟩, c22⟩).trans ?_; dsimp only; rw [el, if_neg c48]) | exact pif_f (fun h => c5 h.1.1) | exact pif_f (fun h => c13 h.1.2) | exact pif_f (fun h => c22 h.2)

set_option maxRecDepth 100000 in
set_option maxHeartbeats 4000000 in
theorem c_X8_findsActive {X : Hp} {ad : Nat → Nat} {r pf : Int → Int} {sv : Int} {er sn lw rc wt : Int → Int} {wg : Int} {ls ac fi : Int → Int} {as : Int} {hh : Int64} (hM : MM X ad r pf sv er sn lw rc wt wg ls ac fi as hh) {w : Int} (hw : 0 ≤ w ∧ w ≤ 1) : Ct yX8_findsActive cX8_findsActive 3 none 0 0 [.ref (ad 0), vi w] X 0 0 (fun rv X' => rv = none ∧ ∃ ac' fi' as', MG X X' ad r pf sv er sn lw rc wt wg ls ac' fi' as' hh ∧ ActL r w 16000 ac' as' ∧ ∀ i, 0 ≤ i → i < as' → fi' i = 1) := by
  refine Ct.of (by decide +kernel) [some (.ref (ad 0)), some (vi w), none] rfl (Nat.le_of_ble_eq_true rfl) (fun φ hF hR => ?_)
  have hM := hM.g
  refine j_aload_n hF dX8_findsActive_0 rfl (j_iconst hF dX8_findsActive_1 (j_put hF hM.1.1 fl_RX8_149 dX8_findsActive_2 rfl rfl (Nat.le_of_ble_eq_true rfl) (j_nm (fun X1 eX1 => ?_))))
  have hM := hM.u_as eX1
  refine j_iconst hF dX8_findsActive_5 (j_istore_n hF dX8_findsActive_6 (Nat.le_of_ble_eq_true rfl) rfl ?_)
  have LL : ∀ (n : Nat) (k : Int) (Y : Hp) (ac' fi' : Int → Int) (as' : Int), (16000 - k).toNat < n → 0 ≤ k ∧ k ≤ 16000 → MG X Y ad r pf sv er sn lw rc wt wg ls ac' fi' as' hh → ActL r w k ac' as' → (∀ i, 0 ≤ i → i < as' → fi' i = 1) → Jd φ Y 0 0 7 [some (.ref (ad 0)), some (vi w), some (vi k)] [] := by
    intro n
    induction n with
    | zero => intro k Y ac' fi' as' hfu; exact absurd hfu (by omega)
    | succ n ih =>
      intro k Y ac' fi' as' hfu hk hM hA hf
      refine j_iload_n hF dX8_findsActive_7 rfl (j_sipush hF dX8_findsActive_8 (by decide) (j_icmp_ge hF 69 dX8_findsActive_11 (by decide) (by omega) (fun c11 => ?_) (fun c11 => ?_)))
      ·
        refine j_vret hF hR dX8_findsActive_69 (by omega) (by omega) ?_
        have ek : k = 16000 := by omega
        subst ek
        exact ⟨rfl, _, _, _, hM, hA, hf⟩
      ·
        refine j_aload_n hF dX8_findsActive_14 rfl (j_get hF hM.1.1 fl_RX8_8 dX8_findsActive_15 rfl (j_sipush hF dX8_findsActive_18 (by decide) (j_sipush hF dX8_findsActive_21 (by decide) (j_iload_n hF dX8_findsActive_24 rfl (j_imul hF dX8_findsActive_25 ?_)))))
        refine j_iadd hF dX8_findsActive_26 (j_iload_n hF dX8_findsActive_27 rfl (j_iadd hF dX8_findsActive_28 (j_iald hF hM.1.2.1 dX8_findsActive_29 (by omega) (fun ra1 rb1 => ?_))))
        have a0 := hA.1
        refine j_if_le hF 63 dX8_findsActive_30 (by decide) (by omega) (fun c30 => ?_) (fun c30 => ?_)
        ·
          refine j_iinc hF dX8_findsActive_63 rfl (Nat.le_of_ble_eq_true rfl) rfl (j_goto hF 7 dX8_findsActive_66 (by decide) ?_)
          first | (refine ih (k + 1) _ _ _ _ (by omega) (by omega) hM (hA.push hk.1 c30) (fun i i1 i2 => ?_); by_cases hi : i = as'; rw [hi, fu_s]; rw [fu_n hi]; exact hf i i1 (by omega)) | exact ih (k + 1) _ _ _ _ (by omega) (by omega) hM (hA.skip hk.1 c30) hf
        ·
          refine j_aload_n hF dX8_findsActive_33 rfl (j_get hF hM.1.1 fl_RX8_37 dX8_findsActive_34 rfl (j_aload_n hF dX8_findsActive_37 rfl (j_get hF hM.1.1 fl_RX8_149 dX8_findsActive_38 rfl (j_iload_n hF dX8_findsActive_41 rfl (j_iast hF hM.1.2.2.2.2.2.2.2.2.2.1 dX8_findsActive_42 (by omega) (by omega) (j_nm (fun X2 eX2 => ?_)))))))
          have hM := hM.u_ac eX2
          refine j_aload_n hF dX8_findsActive_43 rfl (j_get hF hM.1.1 fl_RX8_40 dX8_findsActive_44 rfl (j_aload_n hF dX8_findsActive_47 rfl (j_get hF hM.1.1 fl_RX8_149 dX8_findsActive_48 rfl (j_iconst hF dX8_findsActive_51 (j_zast hF hM.1.2.2.2.2.2.2.2.2.2.2 dX8_findsActive_52 (by omega) (by exact Or.inr rfl) (j_nm (fun X3 eX3 => ?_)))))))
          have hM := hM.u_fi eX3
          refine j_aload_n hF dX8_findsActive_53 rfl (j_dup hF dX8_findsActive_54 rfl (j_get hF hM.1.1 fl_RX8_149 dX8_findsActive_55 rfl (j_iconst hF dX8_findsActive_58 (j_iadd hF dX8_findsActive_59 (j_put hF hM.1.1 fl_RX8_149 dX8_findsActive_60 rfl rfl (Nat.le_of_ble_eq_true rfl) (j_nm (fun X4 eX4 => ?_)))))))
          have hM := hM.u_as eX4
          refine j_iinc hF dX8_findsActive_63 rfl (Nat.le_of_ble_eq_true rfl) rfl (j_goto hF 7 dX8_findsActive_66 (by decide) ?_)
          first | (refine ih (k + 1) _ _ _ _ (by omega) (by omega) hM (hA.push hk.1 c30) (fun i i1 i2 => ?_); by_cases hi : i = as'; rw [hi, fu_s]; rw [fu_n hi]; exact hf i i1 (by omega)) | exact ih (k + 1) _ _ _ _ (by omega) (by omega) hM (hA.skip hk.1 c30) hf
  exact LL 16001 0 _ ac fi 0 (by decide) (by decide) hM (ActL.zero _ _ _) (fun i i1 i2 => by omega)

set_option maxRecDepth 100000 in
set_option maxHeartbeats 4000000 in
theorem c_X8_findsFrontier {X : Hp} {ad : Nat → Nat} {r pf : Int → Int} {sv : Int} {er sn lw rc wt : Int → Int} {wg : Int} {ls ac fi : Int → Int} {as : Int} {hh : Int64} (hM : MM X ad r pf sv er sn lw rc wt wg ls ac fi as hh) {w : Int} (hG : GI r) (hw : 0 ≤ w ∧ w ≤ 1) : Ct yX8_findsFrontier cX8_findsFrontier 7 none 3 73 [.ref (ad 0), vi w] X 0 0 (fun rv X' => rv = none ∧ ∃ rc' wt' wg' ls' ac' fi' as', MG X X' ad r pf sv er sn lw rc' wt' wg' ls' ac' fi' as' hh ∧ FI r w ac' fi' as') := by
  refine Ct.of (by decide +kernel) [some (.ref (ad 0)), some (vi w), none, none, none, none, none] rfl (Nat.le_of_ble_eq_true rfl) (fun φ hF hR => ?_)
  have hM := hM.g
  refine j_aload_n hF dX8_findsFrontier_0 rfl (j_iload_n hF dX8_findsFrontier_1 rfl (j_callV hF (c_X8_findsActive hM.1 (by omega)) ms_X8_findsActive mv_X8_findsActive lk_RX8_152 dX8_findsFrontier_2 hM.1.1 rfl rfl rfl (by simp [Value.category]) ⟨⟨(Nat.le_of_ble_eq_true rfl), (Nat.le_of_ble_eq_true rfl)⟩, by omega, by omega⟩ (fun v1 X1 hp1 hE1 => ?_)))
  obtain ⟨rfl, ac0, fi0, as0, hM1, hA, hf⟩ := hp1
  have hM := hM.tr hM1
  refine j_iconst hF dX8_findsFrontier_5 (j_istore_n hF dX8_findsFrontier_6 (Nat.le_of_ble_eq_true rfl) rfl ?_)
  have L7 : ∀ (n : Nat) (k : Int) (Y : Hp) (rc' wt' : Int → Int) (wg' : Int) (ls' fi' : Int → Int), (as0 - k).toNat < n → 0 ≤ k ∧ k ≤ as0 → MG X Y ad r pf sv er sn lw rc' wt' wg' ls' ac0 fi' as0 hh → (∀ x, 0 ≤ x → x < as0 → fi' x = bz (FP r ac0 k x)) → Jd φ Y 0 0 7 [some (.ref (ad 0)), some (vi w), some (vi k), none, none, none, none] [] := by
    intro n
    induction n with
    | zero => intro k Y rc' wt' wg' ls' fi' hfu; exact absurd hfu (by omega)
    | succ n ih =>
      intro k Y rc' wt' wg' ls' fi' hfu hk hM hf
      refine j_iload_n hF dX8_findsFrontier_7 rfl (j_aload_n hF dX8_findsFrontier_8 rfl (j_get hF hM.1.1 fl_RX8_149 dX8_findsFrontier_9 rfl (j_icmp_ge hF 155 dX8_findsFrontier_12 (by decide) (by have := hA.1; omega) (fun c12 => ?_) (fun c12 => ?_))))
      ·
        refine j_vret hF hR dX8_findsFrontier_155 (by omega) (by omega) ?_
        have ek : k = as0 := by omega
        exact ⟨rfl, _, _, _, _, _, _, _, hM, hA, fun j j1 j2 => by rw [hf j j1 j2, ek]; exact bz_iff (hA.fp j1 j2)⟩
      ·
        have ak := (hA.2.2.1 k hk.1 (by omega)).1
        have a1 := hA.1
        refine j_aload_n hF dX8_findsFrontier_15 rfl (j_get hF hM.1.1 fl_RX8_37 dX8_findsFrontier_16 rfl (j_iload_n hF dX8_findsFrontier_19 rfl (j_iald hF hM.1.2.2.2.2.2.2.2.2.2.1 dX8_findsFrontier_20 (by omega) (fun ra1 rb1 => ?_))))
        refine j_sipush hF dX8_findsFrontier_21 (by decide) (j_irem hF dX8_findsFrontier_24 (by omega) (j_istore_n hF dX8_findsFrontier_25 (Nat.le_of_ble_eq_true rfl) rfl (j_aload_n hF dX8_findsFrontier_26 rfl (j_aload_n hF dX8_findsFrontier_27 rfl (j_get hF hM.1.1 fl_RX8_37 dX8_findsFrontier_28 rfl ?_)))))
        refine j_iload_n hF dX8_findsFrontier_31 rfl (j_iald hF hM.1.2.2.2.2.2.2.2.2.2.1 dX8_findsFrontier_32 (by omega) (fun ra2 rb2 => ?_))
        refine j_sipush hF dX8_findsFrontier_33 (by decide) (j_idiv hF dX8_findsFrontier_36 (by omega) (j_iload_n hF dX8_findsFrontier_37 rfl (j_bipush hF dX8_findsFrontier_38 (by decide) (j_irem hF dX8_findsFrontier_40 (by omega) (j_callV hF (c_X8_goes hM.1 hG (by omega) (by omega)) ms_X8_goes mv_X8_goes lk_RX8_104 dX8_findsFrontier_41 hM.1.1 rfl rfl rfl (by simp [Value.category]) ⟨⟨(Nat.le_of_ble_eq_true rfl), (Nat.le_of_ble_eq_true rfl)⟩, by omega, by omega⟩ (fun v3 X3 hp3 hE3 => ?_))))))
        obtain ⟨rfl, rc', wt', wg', ls', hM1, hL⟩ := hp3
        have hM := hM.tr hM1
        refine j_iconst hF dX8_findsFrontier_44 (j_istore hF dX8_findsFrontier_45 (Nat.le_of_ble_eq_true rfl) rfl ?_)
        have L47 : ∀ (n2 : Nat) (j : Int) (Y : Hp) (fi' : Int → Int), (as0 - j).toNat < n2 → 0 ≤ j ∧ j ≤ as0 → MG X Y ad r pf sv er sn lw rc' wt' wg' ls' ac0 fi' as0 hh → (∀ x, 0 ≤ x → x < as0 → fi' x = bz (FP r ac0 (if x < j then k + 1 else k) x)) → Jd φ Y 0 0 47 [some (.ref (ad 0)), some (vi w), some (vi k), some (vi (ac0 k % 1000)), some (vi j), none, none] [] := by
          intro n2
          induction n2 with
          | zero => intro j Y fi' hfu; exact absurd hfu (by omega)
          | succ n2 ih2 =>
            intro j Y fi' hfu hj hM hf
            refine j_iload hF dX8_findsFrontier_47 rfl (j_aload_n hF dX8_findsFrontier_49 rfl (j_get hF hM.1.1 fl_RX8_149 dX8_findsFrontier_50 rfl (j_icmp_ge hF 149 dX8_findsFrontier_53 (by decide) (by have := hA.1; omega) (fun c53 => ?_) (fun c53 => ?_))))
            ·
              refine j_iinc hF dX8_findsFrontier_149 rfl (Nat.le_of_ble_eq_true rfl) rfl (j_goto hF 7 dX8_findsFrontier_152 (by decide) ?_)
              refine j_unset 3 (j_unset 4 (j_unset 5 (j_unset 6 ?_)))
              refine ih (k + 1) _ _ _ _ _ _ (by omega) (by omega) hM (fun x x1 x2 => ?_)
              rw [hf x x1 x2, if_pos (by omega)]
            ·
              have aj := (hA.2.2.1 j hj.1 (by omega)).1
              refine j_aload_n hF dX8_findsFrontier_56 rfl (j_get hF hM.1.1 fl_RX8_37 dX8_findsFrontier_57 rfl (j_iload hF dX8_findsFrontier_60 rfl (j_iald hF hM.1.2.2.2.2.2.2.2.2.2.1 dX8_findsFrontier_62 (by omega) (fun ra1 rb1 => ?_))))
              refine j_sipush hF dX8_findsFrontier_63 (by decide) (j_irem hF dX8_findsFrontier_66 (by omega) (j_istore hF dX8_findsFrontier_67 (Nat.le_of_ble_eq_true rfl) rfl (j_aload_n hF dX8_findsFrontier_69 rfl (j_get hF hM.1.1 fl_RX8_34 dX8_findsFrontier_70 rfl (j_aload_n hF dX8_findsFrontier_73 rfl ?_)))))
              refine j_get hF hM.1.1 fl_RX8_37 dX8_findsFrontier_74 rfl (j_iload hF dX8_findsFrontier_77 rfl (j_iald hF hM.1.2.2.2.2.2.2.2.2.2.1 dX8_findsFrontier_79 (by omega) (fun ra2 rb2 => ?_)))
              refine j_sipush hF dX8_findsFrontier_80 (by decide) (j_idiv hF dX8_findsFrontier_83 (by omega) (j_iald hF hM.1.2.2.2.2.2.2.2.2.1 dX8_findsFrontier_84 (by omega) (fun ra3 rb3 => ?_)))
              have hl := hL (ac0 j / 1000) (by omega) (by omega)
              have ld := hl.ld (u := ac0 j % 1000)
              have J142 : Jd φ Y 0 0 142 [some (.ref (ad 0)), some (vi w), some (vi k), some (vi (ac0 k % 1000)), some (vi j), some (vi (ac0 j % 1000)), some (vi (ls' (ac0 j / 1000)))] [vi (bz (FP r ac0 (k + 1) j)), vi j, .ref (ad 10)] := by
                refine j_zast hF hM.1.2.2.2.2.2.2.2.2.2.2 dX8_findsFrontier_142 (by omega) (by exact bz_01 _) (j_nm (fun X1 eX1 => ?_))
                have hM := hM.u_fi eX1
                refine j_iinc hF dX8_findsFrontier_143 rfl (Nat.le_of_ble_eq_true rfl) rfl (j_goto hF 47 dX8_findsFrontier_146 (by decide) ?_)
                refine j_unset 5 (j_unset 6 ?_)
                refine ih2 (j + 1) _ _ (by omega) (by omega) hM (fun x x1 x2 => ?_)
                by_cases hx : x = j
                · subst hx; rw [fu_s, if_pos (by omega)]
                · rw [fu_n hx, hf x x1 x2]; split <;> split <;> first | rfl | omega
              have hv : fi' j = bz (FP r ac0 k j) := by rw [hf j hj.1 (by omega), if_neg (by omega)]
              refine j_istore hF dX8_findsFrontier_85 (Nat.le_of_ble_eq_true rfl) rfl (j_aload_n hF dX8_findsFrontier_87 rfl (j_get hF hM.1.1 fl_RX8_40 dX8_findsFrontier_88 rfl (j_iload hF dX8_findsFrontier_91 rfl (j_aload_n hF dX8_findsFrontier_93 rfl (j_get hF hM.1.1 fl_RX8_40 dX8_findsFrontier_94 rfl ?_)))))
              refine j_iload hF dX8_findsFrontier_97 rfl (j_zald hF hM.1.2.2.2.2.2.2.2.2.2.2 dX8_findsFrontier_99 (by omega) (fun ra4 rb4 => ?_))
              refine j_if_eq hF 141 dX8_findsFrontier_100 (by decide) (by omega) (fun c100 => ?_) (fun c100 => ?_)
              ·
                have hfj : ¬ FP r ac0 k j := bz_0 (hv ▸ c100)
                refine j_iconst hF dX8_findsFrontier_141 ?_
                have q := J142
                rw [bz_f (by first | exact FP.f hfj | exact FP.n hk.1 c106 (ld.mpr ⟨c118, c124, c134⟩))] at q
                exact q
              ·
                have hfj : FP r ac0 k j := bz_ne0 (hv ▸ c100)
                refine j_iload_n hF dX8_findsFrontier_103 rfl (j_iload hF dX8_findsFrontier_104 rfl (j_icmp_eq hF 137 dX8_findsFrontier_106 (by decide) (by omega) (fun c106 => ?_) (fun c106 => ?_)))
                ·
                  refine j_iconst hF dX8_findsFrontier_137 (j_goto hF 142 dX8_findsFrontier_138 (by decide) ?_)
                  have q := J142
                  rw [bz_t (hfj.s (by first | exact Or.inl c106 | exact Or.inr (fun h => absurd (ld.mp h).1 (Int.not_le.mpr c118)) | exact Or.inr (fun h => (ld.mp h).2.1 c124) | exact Or.inr (fun h => absurd (ld.mp h).2.2 (Int.not_le.mpr c134))))] at q
                  exact q
                ·
                  refine j_iload_n hF dX8_findsFrontier_109 rfl (j_bipush hF dX8_findsFrontier_110 (by decide) (j_idiv hF dX8_findsFrontier_112 (by omega) (j_iload hF dX8_findsFrontier_113 rfl (j_bipush hF dX8_findsFrontier_115 (by decide) (j_idiv hF dX8_findsFrontier_117 (by omega) ?_)))))
                  refine j_icmp_gt hF 137 dX8_findsFrontier_118 (by decide) (by omega) (fun c118 => ?_) (fun c118 => ?_)
                  ·
                    refine j_iconst hF dX8_findsFrontier_137 (j_goto hF 142 dX8_findsFrontier_138 (by decide) ?_)
                    have q := J142
                    rw [bz_t (hfj.s (by first | exact Or.inl c106 | exact Or.inr (fun h => absurd (ld.mp h).1 (Int.not_le.mpr c118)) | exact Or.inr (fun h => (ld.mp h).2.1 c124) | exact Or.inr (fun h => absurd (ld.mp h).2.2 (Int.not_le.mpr c134))))] at q
                    exact q
                  ·
                    refine j_iload hF dX8_findsFrontier_121 rfl (j_iconst hF dX8_findsFrontier_123 (j_icmp_eq hF 137 dX8_findsFrontier_124 (by decide) (by omega) (fun c124 => ?_) (fun c124 => ?_)))
                    ·
                      refine j_iconst hF dX8_findsFrontier_137 (j_goto hF 142 dX8_findsFrontier_138 (by decide) ?_)
                      have q := J142
                      rw [bz_t (hfj.s (by first | exact Or.inl c106 | exact Or.inr (fun h => absurd (ld.mp h).1 (Int.not_le.mpr c118)) | exact Or.inr (fun h => (ld.mp h).2.1 c124) | exact Or.inr (fun h => absurd (ld.mp h).2.2 (Int.not_le.mpr c134))))] at q
                      exact q
                    ·
                      refine j_iload hF dX8_findsFrontier_127 rfl (j_iload hF dX8_findsFrontier_129 rfl (j_bipush hF dX8_findsFrontier_131 (by decide) (j_irem hF dX8_findsFrontier_133 (by omega) (j_icmp_le hF 141 dX8_findsFrontier_134 (by decide) (by omega) (fun c134 => ?_) (fun c134 => ?_)))))
                      ·
                        refine j_iconst hF dX8_findsFrontier_141 ?_
                        have q := J142
                        rw [bz_f (by first | exact FP.f hfj | exact FP.n hk.1 c106 (ld.mpr ⟨c118, c124, c134⟩))] at q
                        exact q
                      ·
                        refine j_iconst hF dX8_findsFrontier_137 (j_goto hF 142 dX8_findsFrontier_138 (by decide) ?_)
                        have q := J142
                        rw [bz_t (hfj.s (by first | exact Or.inl c106 | exact Or.inr (fun h => absurd (ld.mp h).1 (Int.not_le.mpr c118)) | exact Or.inr (fun h => (ld.mp h).2.1 c124) | exact Or.inr (fun h => absurd (ld.mp h).2.2 (Int.not_le.mpr c134))))] at q
                        exact q
        exact L47 (as0.toNat + 1) 0 _ _ (by omega) (by omega) hM (fun x x1 x2 => by rw [hf x x1 x2, if_neg (by omega)])
  exact L7 (as0.toNat + 1) 0 _ _ _ _ _ _ (by omega) ⟨by decide, hA.1.1⟩ hM (fun x x1 x2 => by rw [hf x x1 x2, bz_t (FP.z _ _ _)])
