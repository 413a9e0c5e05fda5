/-! View -/
theorem fcI {f g : Int → Int} {sp dp n j : Int} (h1 : dp ≤ j) (h2 : j < dp + n) : fc f g sp dp n j = f (sp + (j - dp)) := if_pos ⟨h1, h2⟩
theorem fcO {f g : Int → Int} {sp dp n j : Int} (h : j < dp ∨ dp + n ≤ j) : fc f g sp dp n j = g j := if_neg (by omega)
theorem fcS {f g : Int → Int} {n j : Int} (h1 : 0 ≤ j) (h2 : j < n) : fc f g 0 0 n j = f j := by rw [fcI h1 (by omega)]; congr 1; omega
theorem FB.all {lo hi : Nat} {X Y : Hp} (h : FB 0 0 X Y) : FB lo hi X Y := fun a l c hx _ => h a l c hx (Or.inr (Nat.zero_le _))
theorem FB.at {X Y : Hp} (h : FB 0 0 X Y) {a l : Nat} {c : Cel} (hx : X a = some (l, c)) : Y a = some (l, c) := h a l c hx (Or.inr (Nat.zero_le _))
/-- the room that makeRoom leaves -/
def mr (n : Nat) (z : Int) : Nat := if z ≤ n then n else (2 * z).toNat
theorem mr_le {n : Nat} {z : Int} (h : z ≤ n) : mr n z = n := if_pos h
theorem mr_gt {n : Nat} {z : Int} (h : (n : Int) < z) : (mr n z : Int) = 2 * z := by unfold mr; rw [if_neg (by omega)]; omega
theorem mr_ge (n : Nat) (z : Int) : n ≤ mr n z ∧ z ≤ mr n z := by
  by_cases h : z ≤ n
  · rw [mr_le h]; omega
  · have := mr_gt (n := n) (z := z) (by omega); omega
theorem mr_top {n : Nat} {z : Int} (h1 : n ≤ 32002) (h2 : z ≤ 16001) : mr n z ≤ 32002 := by
  by_cases h : z ≤ n
  · rw [mr_le h]; omega
  · have := mr_gt (n := n) (z := z) (by omega); omega
/-- the rows are the counts f, in ascending order -/
def VI (n : Nat) (sz : Int) (fs fv f : Int → Int) : Prop := (0 ≤ sz ∧ sz ≤ n) ∧ (∀ i, 0 ≤ i → i < sz → (0 ≤ fs i ∧ fs i < 16000) ∧ fv i = f (fs i) ∧ ¬ f (fs i) = 0) ∧ (∀ i j, 0 ≤ i → i < j → j < sz → fs i < fs j) ∧ (∀ x, 0 ≤ x → x < 16000 → ¬ f x = 0 → ∃ i, 0 ≤ i ∧ i < sz ∧ fs i = x)
def VR (X : Hp) (b v n : Nat) (sz : Int) (f : Int → Int) : Prop := ∃ s c k fs fv fk, VP X b v s c k n sz fs fv fk ∧ VI n sz fs fv f ∧ 16 ≤ n ∧ n ≤ 32002
theorem VI.rows {n : Nat} {sz : Int} {fs fv f : Int → Int} (h : VI n sz fs fv f) : ∀ i : Nat, (i : Int) < sz → (i : Int) ≤ fs i
  | 0, hi => (h.2.1 0 (by omega) hi).1.1
  | i + 1, hi => by
    have h1 := VI.rows h i (by omega)
    have h2 := h.2.2.1 (i : Int) ((i : Int) + 1) (by omega) (by omega) (by omega)
    show ((i + 1 : Nat) : Int) ≤ fs ((i + 1 : Nat) : Int)
    rw [show ((i + 1 : Nat) : Int) = (i : Int) + 1 by omega]
    omega
theorem VI.top {n : Nat} {sz : Int} {fs fv f : Int → Int} (h : VI n sz fs fv f) : 0 ≤ sz ∧ sz ≤ 16000 := by
  refine ⟨h.1.1, ?_⟩
  by_cases h0 : sz ≤ 0
  · omega
  · have h1 := h.rows (sz - 1).toNat (by omega)
    have h2 := (h.2.1 (sz - 1) (by omega) (by omega)).1
    rw [show ((sz - 1).toNat : Int) = sz - 1 by omega] at h1
    omega
/-- a sum over the rows is the sum over the stamps -/
theorem VI.sum {n : Nat} {sz : Int} {fs fv f g : Int → Int} (h : VI n sz fs fv f) (hg : ∀ x, 0 ≤ x → x < 16000 → f x = 0 → g x = 0) : ∀ i : Nat, (i : Int) ≤ sz → cf (fun j => g (fs j)) i = cf g (if (i : Int) < sz then fs i else 16000).toNat
  | 0, hi => by
    show (0 : Int) = _
    symm
    apply cf_zero
    intro j j1 j2
    refine hg j j1 ?_ (Classical.byContradiction fun q => ?_)
    · split at j2
      · have := (h.2.1 0 (by omega) (by omega)).1; rw [show ((0 : Nat) : Int) = 0 from rfl] at j2; omega
      · omega
    · have jl : j < 16000 := by
        split at j2
        · have := (h.2.1 0 (by omega) (by omega)).1; rw [show ((0 : Nat) : Int) = 0 from rfl] at j2; omega
        · omega
      obtain ⟨i, i1, i2, i3⟩ := h.2.2.2 j j1 jl q
      rw [if_pos (show ((0 : Nat) : Int) < sz by omega), show ((0 : Nat) : Int) = 0 from rfl] at j2
      have b0 := (h.2.1 0 (by omega) (by omega)).1
      by_cases e : i = 0
      · rw [e] at i3; omega
      · have := h.2.2.1 0 i (by omega) (by omega) i2; omega
  | i + 1, hi => by
    have hI := VI.sum h hg i (by omega)
    rw [if_pos (show (i : Int) < sz by omega)] at hI
    have b1 := (h.2.1 (i : Int) (by omega) (by omega)).1
    show cf (fun j => g (fs j)) i + g (fs (i : Int)) = _
    rw [hI]
    have e1 : cf g ((fs (i : Int)).toNat + 1) = cf g (fs (i : Int)).toNat + g (fs (i : Int)) := by
      show cf g (fs (i : Int)).toNat + g (((fs (i : Int)).toNat : Nat) : Int) = _
      rw [show (((fs (i : Int)).toNat : Nat) : Int) = fs (i : Int) by omega]
    rw [← e1]
    symm
    have ei : ((i + 1 : Nat) : Int) = (i : Int) + 1 := by omega
    rw [ei]
    have lt : ∀ j, j < (if (i : Int) + 1 < sz then fs ((i : Int) + 1) else 16000) → fs (i : Int) < j → j < 16000 ∧ ∀ q, 0 ≤ q → q < sz → ¬ fs q = j := by
      intro j j1 j2
      constructor
      · split at j1
        · have := (h.2.1 ((i : Int) + 1) (by omega) (by omega)).1; omega
        · exact j1
      · intro q q1 q2 q3
        by_cases e : q ≤ (i : Int)
        · by_cases e' : q = (i : Int)
          · rw [e'] at q3; omega
          · have := h.2.2.1 q (i : Int) q1 (by omega) (by omega); omega
        · rw [if_pos (by omega)] at j1
          by_cases e' : q = (i : Int) + 1
          · rw [e'] at q3; omega
          · have := h.2.2.1 ((i : Int) + 1) q (by omega) (by omega) q2; omega
    apply cf_flat
    · split
      · have := h.2.2.1 (i : Int) ((i : Int) + 1) (by omega) (by omega) (by omega); omega
      · omega
    · intro j j1 j2
      have j3 : j < (if (i : Int) + 1 < sz then fs ((i : Int) + 1) else 16000) := by
        have : 0 ≤ (if (i : Int) + 1 < sz then fs ((i : Int) + 1) else 16000) := by
          split
          · exact (h.2.1 ((i : Int) + 1) (by omega) (by omega)).1.1
          · omega
        omega
      obtain ⟨l1, l2⟩ := lt j j3 (by omega)
      exact hg j (by omega) l1 (Classical.byContradiction fun q => by
        obtain ⟨i', i1, i2, i3⟩ := h.2.2.2 j (by omega) l1 q
        exact l2 i' i1 i2 i3)
theorem VI.all {n : Nat} {sz : Int} {fs fv f g : Int → Int} (h : VI n sz fs fv f) (hg : ∀ x, 0 ≤ x → x < 16000 → f x = 0 → g x = 0) : cf (fun j => g (fs j)) sz.toNat = cf g 16000 := by
  have hs := h.1.1
  have := h.sum hg sz.toNat (by omega)
  rw [if_neg (by omega)] at this
  exact this
set_option maxRecDepth 100000 in
set_option maxHeartbeats 4000000 in
theorem c_X4_firstRowFrom {X : Hp} {b : Nat} {v s c k : Nat} {n : Nat} {sz : Int} {fs fv fk : Int → Int} (hM : VP X b v s c k n sz fs fv fk) {x : Int} (hz : 0 ≤ sz ∧ sz ≤ n) (hn : n ≤ 40000) (hx : 0 ≤ x ∧ x < 16000) : Ct yX4_firstRowFrom cX4_firstRowFrom 3 (some .int) 0 0 [.ref v, vi x] X 0 0 (fun rv X' => ∃ row, rv = some (vi row) ∧ (0 ≤ row ∧ row ≤ sz) ∧ (∀ i, 0 ≤ i → i < row → fs i < x) ∧ (row < sz → x ≤ fs row) ∧ X' = X) := by
  refine Ct.of (by decide +kernel) [some (.ref v), some (vi x), none] rfl (Nat.le_of_ble_eq_true rfl) (fun φ hF hR => ?_)
  have hM := hM.gg
  refine j_iconst hF dX4_firstRowFrom_0 (j_istore_n hF dX4_firstRowFrom_1 (Nat.le_of_ble_eq_true rfl) rfl ?_)
  have LL : ∀ (n : Nat) (i : Int), (sz - i).toNat < n → 0 ≤ i ∧ i ≤ sz → BA (fun j => fs j < x) i → Jd φ X 0 0 2 [some (.ref v), some (vi x), some (vi i)] [] := by
    intro n
    induction n with
    | zero => intro i hfu; exact absurd hfu (by omega)
    | succ n ih =>
      intro i hfu hi hB
      refine j_iload_n hF dX4_firstRowFrom_2 rfl (j_aload_n hF dX4_firstRowFrom_3 rfl (j_get hF hM.1.1 fl_RX4_28 dX4_firstRowFrom_4 rfl (j_icmp_ge hF 28 dX4_firstRowFrom_7 (by decide) (by omega) (fun c7 => ?_) (fun c7 => ?_))))
      ·
        refine j_aload_n hF dX4_firstRowFrom_28 rfl (j_get hF hM.1.1 fl_RX4_28 dX4_firstRowFrom_29 rfl (j_iret hF hR dX4_firstRowFrom_32 (by omega) (by omega) ?_))
        have ek : i = sz := by omega
        exact ⟨sz, rfl, by omega, ek ▸ hB, fun g => absurd g (by omega), rfl⟩
      ·
        refine j_aload_n hF dX4_firstRowFrom_10 rfl (j_get hF hM.1.1 fl_RX4_11 dX4_firstRowFrom_11 rfl (j_iload_n hF dX4_firstRowFrom_14 rfl (j_iald hF hM.1.2.1 dX4_firstRowFrom_15 (by omega) (fun ra1 rb1 => ?_))))
        refine j_iload_n hF dX4_firstRowFrom_16 rfl (j_icmp_lt hF 22 dX4_firstRowFrom_17 (by decide) (by omega) (fun c17 => ?_) (fun c17 => ?_))
        ·
          refine j_iinc hF dX4_firstRowFrom_22 rfl (Nat.le_of_ble_eq_true rfl) rfl (j_goto hF 2 dX4_firstRowFrom_25 (by decide) ?_)
          exact ih (i + 1) (by omega) (by omega) (hB.s c17)
        ·
          refine j_iload_n hF dX4_firstRowFrom_20 rfl (j_iret hF hR dX4_firstRowFrom_21 (by omega) (by omega) ?_)
          exact ⟨i, rfl, by omega, hB, fun _ => by omega, rfl⟩
  exact LL (sz.toNat + 1) 0 (by omega) (by omega) (BA.z _)

set_option maxRecDepth 100000 in
set_option maxHeartbeats 4000000 in
theorem c_X4_rowOf {X : Hp} {b : Nat} {v s c k : Nat} {n : Nat} {sz : Int} {fs fv fk : Int → Int} (hM : VP X b v s c k n sz fs fv fk) {x : Int} (hz : 0 ≤ sz ∧ sz ≤ n) (hn : n ≤ 40000) (hx : 0 ≤ x ∧ x < 16000) (hso : ∀ i j, 0 ≤ i → i < j → j < sz → fs i < fs j) : Ct yX4_rowOf cX4_rowOf 3 (some .int) 1 22 [.ref v, vi x] X 0 0 (fun rv X' => ∃ row, rv = some (vi row) ∧ ((row = -1 ∧ ∀ i, 0 ≤ i → i < sz → ¬ fs i = x) ∨ ((0 ≤ row ∧ row < sz) ∧ fs row = x)) ∧ X' = X) := by
  refine Ct.of (by decide +kernel) [some (.ref v), some (vi x), none] rfl (Nat.le_of_ble_eq_true rfl) (fun φ hF hR => ?_)
  have hM := hM.gg
  refine j_aload_n hF dX4_rowOf_0 rfl (j_iload_n hF dX4_rowOf_1 rfl (j_callV hF (c_X4_firstRowFrom hM.1 hz hn hx) ms_X4_firstRowFrom mv_X4_firstRowFrom lk_RX4_25 dX4_rowOf_2 hM.1.1 rfl rfl rfl (by simp [Value.category]) ⟨⟨(Nat.le_of_ble_eq_true rfl), (Nat.le_of_ble_eq_true rfl)⟩, by omega, by omega⟩ (fun v1 X1 hp1 hE1 => ?_)))
  obtain ⟨row, rfl, hr, hr1, hr2, he1⟩ := hp1
  obtain rfl := he1.symm
  refine j_istore_n hF dX4_rowOf_5 (Nat.le_of_ble_eq_true rfl) rfl (j_iload_n hF dX4_rowOf_6 rfl (j_aload_n hF dX4_rowOf_7 rfl (j_get hF hM.1.1 fl_RX4_28 dX4_rowOf_8 rfl (j_icmp_ge hF 28 dX4_rowOf_11 (by decide) (by omega) (fun c11 => ?_) (fun c11 => ?_)))))
  ·
    refine j_iconst hF dX4_rowOf_28 (j_iret hF hR dX4_rowOf_29 (by omega) (by omega) ?_)
    refine ⟨-1, rfl, Or.inl ⟨rfl, fun i i1 i2 e => ?_⟩, rfl⟩
    by_cases q : i < row
    · exact absurd (hr1 i i1 q) (by omega)
    · by_cases q2 : i = row
      · rw [q2] at e; first | exact c21 e | omega
      · have a1 := hso row i hr.1 (by omega) i2; have a2 := hr2 (by omega); omega
  ·
    refine j_aload_n hF dX4_rowOf_14 rfl (j_get hF hM.1.1 fl_RX4_11 dX4_rowOf_15 rfl (j_iload_n hF dX4_rowOf_18 rfl (j_iald hF hM.1.2.1 dX4_rowOf_19 (by omega) (fun ra2 rb2 => ?_))))
    refine j_iload_n hF dX4_rowOf_20 rfl (j_icmp_ne hF 28 dX4_rowOf_21 (by decide) (by omega) (fun c21 => ?_) (fun c21 => ?_))
    ·
      refine j_iconst hF dX4_rowOf_28 (j_iret hF hR dX4_rowOf_29 (by omega) (by omega) ?_)
      refine ⟨-1, rfl, Or.inl ⟨rfl, fun i i1 i2 e => ?_⟩, rfl⟩
      by_cases q : i < row
      · exact absurd (hr1 i i1 q) (by omega)
      · by_cases q2 : i = row
        · rw [q2] at e; first | exact c21 e | omega
        · have a1 := hso row i hr.1 (by omega) i2; have a2 := hr2 (by omega); omega
    ·
      refine j_iload_n hF dX4_rowOf_24 rfl (j_goto hF 29 dX4_rowOf_25 (by decide) (j_iret hF hR dX4_rowOf_29 (by omega) (by omega) ?_))
      exact ⟨row, rfl, Or.inr ⟨⟨hr.1, by omega⟩, c21⟩, rfl⟩

set_option maxRecDepth 100000 in
set_option maxHeartbeats 4000000 in
theorem c_X4_countOf {X : Hp} {b : Nat} {v s c k : Nat} {n : Nat} {sz : Int} {fs fv fk : Int → Int} (hM : VP X b v s c k n sz fs fv fk) {x : Int} {f : Int → Int} (hV : VI n sz fs fv f) (hn : n ≤ 40000) (hx : 0 ≤ x ∧ x < 16000) : Ct yX4_countOf cX4_countOf 3 (some .int) 2 44 [.ref v, vi x] X 0 0 (fun rv X' => rv = some (vi (f x)) ∧ X' = X) := by
  refine Ct.of (by decide +kernel) [some (.ref v), some (vi x), none] rfl (Nat.le_of_ble_eq_true rfl) (fun φ hF hR => ?_)
  have hM := hM.gg
  refine j_aload_n hF dX4_countOf_0 rfl (j_iload_n hF dX4_countOf_1 rfl (j_callV hF (c_X4_rowOf hM.1 hV.1 (by omega) hx hV.2.2.1) ms_X4_rowOf mv_X4_rowOf lk_RX4_21 dX4_countOf_2 hM.1.1 rfl rfl rfl (by simp [Value.category]) ⟨⟨(Nat.le_of_ble_eq_true rfl), (Nat.le_of_ble_eq_true rfl)⟩, by omega, by omega⟩ (fun v1 X1 hp1 hE1 => ?_)))
  obtain ⟨row, rfl, hr, he1⟩ := hp1
  obtain rfl := he1.symm
  refine j_istore_n hF dX4_countOf_5 (Nat.le_of_ble_eq_true rfl) rfl (j_iload_n hF dX4_countOf_6 rfl (j_iconst hF dX4_countOf_7 (j_icmp_ne hF 15 dX4_countOf_8 (by decide) (by have hs := hV.1; rcases hr with g | g <;> omega) (fun c8 => ?_) (fun c8 => ?_))))
  ·
    have hr3 : (0 ≤ row ∧ row < sz) ∧ fs row = x := hr.resolve_left (fun g => c8 g.1)
    have hs := hV.1
    clear hr
    refine j_aload_n hF dX4_countOf_15 rfl (j_get hF hM.1.1 fl_RX4_15 dX4_countOf_16 rfl (j_iload_n hF dX4_countOf_19 rfl (j_iald hF hM.1.2.2.1 dX4_countOf_20 (by omega) (fun ra2 rb2 => ?_))))
    refine j_iret hF hR dX4_countOf_21 (by omega) (by omega) ?_
    refine ⟨sv_eq ?_, rfl⟩
    rw [(hV.2.1 row hr3.1.1 hr3.1.2).2.1, hr3.2]
  ·
    have hr3 : ∀ i, 0 ≤ i → i < sz → ¬ fs i = x := by
      rcases hr with g | g
      · exact g.2
      · exact absurd c8 (by omega)
    refine j_iconst hF dX4_countOf_11 (j_goto hF 21 dX4_countOf_12 (by decide) (j_iret hF hR dX4_countOf_21 (by omega) (by omega) ?_))
    refine ⟨sv_eq (Eq.symm (Classical.byContradiction fun q => ?_)), rfl⟩
    obtain ⟨i, i1, i2, i3⟩ := hV.2.2.2 x hx.1 hx.2 q
    exact hr3 i i1 i2 i3

set_option maxRecDepth 100000 in
set_option maxHeartbeats 4000000 in
theorem c_X4_countActive {X : Hp} {b : Nat} {v s c k : Nat} {n : Nat} {sz : Int} {fs fv fk : Int → Int} (hM : VP X b v s c k n sz fs fv fk) {f : Int → Int} (hV : VI n sz fs fv f) (hn : n ≤ 40000) : Ct yX4_countActive cX4_countActive 3 (some .int) 0 0 [.ref v] X 0 0 (fun rv X' => rv = some (vi (cf (fun x => if 0 < f x then 1 else 0) 16000)) ∧ X' = X) := by
  refine Ct.of (by decide +kernel) [some (.ref v), none, none] rfl (Nat.le_of_ble_eq_true rfl) (fun φ hF hR => ?_)
  have hM := hM.gg
  have hs := hV.1
  refine j_iconst hF dX4_countActive_0 (j_istore_n hF dX4_countActive_1 (Nat.le_of_ble_eq_true rfl) rfl (j_iconst hF dX4_countActive_2 (j_istore_n hF dX4_countActive_3 (Nat.le_of_ble_eq_true rfl) rfl ?_)))
  have LL : ∀ (n : Nat) (k_ : Nat), (sz.toNat - k_) < n → (k_ : Int) ≤ sz → Jd φ X 0 0 4 [some (.ref v), some (vi (cf (fun i => (fun x => if 0 < f x then 1 else 0) (fs i)) k_)), some (vi (k_ : Int))] [] := by
    intro n
    induction n with
    | zero => intro k_ hfu; exact absurd hfu (by omega)
    | succ n ih =>
      intro k_ hfu hk
      refine j_iload_n hF dX4_countActive_4 rfl (j_aload_n hF dX4_countActive_5 rfl (j_get hF hM.1.1 fl_RX4_28 dX4_countActive_6 rfl (j_icmp_ge hF 30 dX4_countActive_9 (by decide) (by omega) (fun c9 => ?_) (fun c9 => ?_))))
      ·
        refine j_iload_n hF dX4_countActive_30 rfl (j_iret hF hR dX4_countActive_31 (by omega) (by omega) ?_)
        have ek : k_ = sz.toNat := by omega
        refine ⟨sv_eq ?_, rfl⟩
        rw [ek]
        exact hV.all (g := fun x => if 0 < f x then 1 else 0) (fun x _ _ e => if_neg (by omega))
      ·
        refine j_aload_n hF dX4_countActive_12 rfl (j_get hF hM.1.1 fl_RX4_15 dX4_countActive_13 rfl (j_iload_n hF dX4_countActive_16 rfl (j_iald hF hM.1.2.2.1 dX4_countActive_17 (by omega) (fun ra1 rb1 => ?_))))
        refine j_if_le hF 24 dX4_countActive_18 (by decide) (by omega) (fun c18 => ?_) (fun c18 => ?_)
        ·
          refine j_iinc hF dX4_countActive_24 rfl (Nat.le_of_ble_eq_true rfl) rfl (j_goto hF 4 dX4_countActive_27 (by decide) ?_)
          have ei : ((k_ + 1 : Nat) : Int) = (k_ : Int) + 1 := by omega
          have ev := (hV.2.1 (k_ : Int) (by omega) (by omega)).2.1
          have es : cf (fun i => (fun x => if 0 < f x then 1 else 0) (fs i)) (k_ + 1) = cf (fun i => (fun x => if 0 < f x then 1 else 0) (fs i)) k_ + (if 0 < f (fs (k_ : Int)) then 1 else 0) := rfl
          first | rw [if_neg (show ¬ 0 < f (fs (k_ : Int)) by omega)] at es | rw [if_pos (show 0 < f (fs (k_ : Int)) by omega)] at es
          have g := ih (k_ + 1) (by omega) (by omega)
          rw [es, ei] at g
          first | exact g | (rw [Int.add_zero] at g; exact g)
        ·
          refine j_iinc hF dX4_countActive_21 rfl (Nat.le_of_ble_eq_true rfl) rfl (j_iinc hF dX4_countActive_24 rfl (Nat.le_of_ble_eq_true rfl) rfl (j_goto hF 4 dX4_countActive_27 (by decide) ?_))
          have ei : ((k_ + 1 : Nat) : Int) = (k_ : Int) + 1 := by omega
          have ev := (hV.2.1 (k_ : Int) (by omega) (by omega)).2.1
          have es : cf (fun i => (fun x => if 0 < f x then 1 else 0) (fs i)) (k_ + 1) = cf (fun i => (fun x => if 0 < f x then 1 else 0) (fs i)) k_ + (if 0 < f (fs (k_ : Int)) then 1 else 0) := rfl
          first | rw [if_neg (show ¬ 0 < f (fs (k_ : Int)) by omega)] at es | rw [if_pos (show 0 < f (fs (k_ : Int)) by omega)] at es
          have g := ih (k_ + 1) (by omega) (by omega)
          rw [es, ei] at g
          first | exact g | (rw [Int.add_zero] at g; exact g)
  exact LL (sz.toNat + 1) 0 (by omega) (by omega)

set_option maxRecDepth 100000 in
set_option maxHeartbeats 4000000 in
theorem c_X4_makeRoom {X : Hp} {b : Nat} {v s c k : Nat} {n : Nat} {sz : Int} {fs fv fk : Int → Int} (hM : VP X b v s c k n sz fs fv fk) {z : Int} {n' : Nat} (hn' : n' = mr n z) (hn : 1 ≤ n ∧ n ≤ 40000) (hz : 0 ≤ z ∧ z ≤ 20000) : Ct yX4_makeRoom cX4_makeRoom 3 none 2 52 [.ref v, vi z] X (n' - n) (6 * (n' - n)) (fun rv X' => rv = none ∧ ∃ s' c' k' fs' fv' fk', VPG X X' b v s' c' k' n' sz fs' fv' fk' ∧ ∀ j : Int, 0 ≤ j → j < n → fs' j = fs j ∧ fv' j = fv j) := by
  refine Ct.of (by decide +kernel) [some (.ref v), some (vi z), none] rfl (Nat.le_of_ble_eq_true rfl) (fun φ hF hR => ?_)
  obtain ⟨h_v, h_s, h_c, h_k⟩ := hM
  have hfr := FB.refl b (b + 10) X
  refine j_iload_n hF dX4_makeRoom_0 rfl (j_aload_n hF dX4_makeRoom_1 rfl (j_get hF h_v fl_RX4_11 dX4_makeRoom_2 rfl (j_ilen hF (by decide) h_s dX4_makeRoom_5 (fun rl1 => ?_))))
  refine j_icmp_le hF 44 dX4_makeRoom_6 (by decide) (by omega) (fun c6 => ?_) (fun c6 => ?_)
  ·
    have hn2 : n' = n := hn'.trans (mr_le c6)
    refine j_vret hF hR dX4_makeRoom_44 (by omega) (by omega) ?_
    subst hn2
    exact ⟨rfl, s, c, k, fs, fv, fk, ⟨⟨h_v, h_s, h_c, h_k⟩, hfr⟩, fun j j1 j2 => ⟨rfl, rfl⟩⟩
  ·
    have hn2 : (n' : Int) = 2 * z := by rw [hn']; exact mr_gt (by omega)
    refine j_iconst hF dX4_makeRoom_9 (j_iload_n hF dX4_makeRoom_10 rfl (j_imul hF dX4_makeRoom_11 ?_))
    rw [← hn2]
    refine j_istore_n hF dX4_makeRoom_12 (Nat.le_of_ble_eq_true rfl) rfl (j_aload_n hF dX4_makeRoom_13 rfl (j_aload_n hF dX4_makeRoom_14 rfl (j_get hF h_v fl_RX4_11 dX4_makeRoom_15 rfl (j_iload_n hF dX4_makeRoom_18 rfl (j_callS hF (c_J7_copyOf_59c91 (b + 1) (m_ := n') h_s (by omega)) ms_J7_copyOf_59c91 mt_J7_copyOf_59c91 lk_RX4_49 dX4_makeRoom_19 rfl rfl rfl (by simp [Value.category]) ⟨⟨(Nat.le_of_ble_eq_true rfl), (Nat.le_of_ble_eq_true rfl)⟩, by omega, by omega⟩ (fun v2 X2 hp2 hE2 => ?_))))))
    obtain ⟨a_s1, rfl, hq2, hn_s1, hk2⟩ := hp2
    have h_v := hk2.at h_v
    have h_s := hk2.at h_s
    have h_c := hk2.at h_c
    have h_k := hk2.at h_k
    have h_s1 := hn_s1
    have hfr := hfr.trans hk2.all
    refine j_put hF h_v fl_RX4_11 dX4_makeRoom_22 rfl rfl (Nat.le_of_ble_eq_true rfl) (j_nm (fun X3 eX3 => ?_))
    have hfr := hfr.trans (FB.up eX3 h_v (by omega) (by omega))
    have h_s := upx eX3 h_s h_v (by omega)
    have h_c := upx eX3 h_c h_v (by omega)
    have h_k := upx eX3 h_k h_v (by omega)
    have h_s1 := upx eX3 h_s1 h_v (by omega)
    have h_v := ups eX3
    refine j_aload_n hF dX4_makeRoom_25 rfl (j_aload_n hF dX4_makeRoom_26 rfl (j_get hF h_v fl_RX4_15 dX4_makeRoom_27 rfl (j_iload_n hF dX4_makeRoom_30 rfl (j_callS hF (c_J7_copyOf_59c91 (b + 2) (m_ := n') h_c (by omega)) ms_J7_copyOf_59c91 mt_J7_copyOf_59c91 lk_RX4_49 dX4_makeRoom_31 rfl rfl rfl (by simp [Value.category]) ⟨⟨(Nat.le_of_ble_eq_true rfl), (Nat.le_of_ble_eq_true rfl)⟩, by omega, by omega⟩ (fun v4 X4 hp4 hE4 => ?_)))))
    obtain ⟨a_c1, rfl, hq4, hn_c1, hk4⟩ := hp4
    have h_v := hk4.at h_v
    have h_s := hk4.at h_s
    have h_c := hk4.at h_c
    have h_k := hk4.at h_k
    have h_s1 := hk4.at h_s1
    have h_c1 := hn_c1
    have hfr := hfr.trans hk4.all
    refine j_put hF h_v fl_RX4_15 dX4_makeRoom_34 rfl rfl (Nat.le_of_ble_eq_true rfl) (j_nm (fun X5 eX5 => ?_))
    have hfr := hfr.trans (FB.up eX5 h_v (by omega) (by omega))
    have h_s := upx eX5 h_s h_v (by omega)
    have h_c := upx eX5 h_c h_v (by omega)
    have h_k := upx eX5 h_k h_v (by omega)
    have h_s1 := upx eX5 h_s1 h_v (by omega)
    have h_c1 := upx eX5 h_c1 h_v (by omega)
    have h_v := ups eX5
    refine j_aload_n hF dX4_makeRoom_37 rfl (j_iload_n hF dX4_makeRoom_38 rfl (j_newi hF (b + 3) (n') kl_ac dX4_makeRoom_39 (by omega) (by omega) (by omega) (fun a_k1 hq6 => j_nm (fun X6 eX6 => ?_)) (by rfl)))
    have h_v := upn eX6 h_v hq6
    have h_s := upn eX6 h_s hq6
    have h_c := upn eX6 h_c hq6
    have h_k := upn eX6 h_k hq6
    have h_s1 := upn eX6 h_s1 hq6
    have h_c1 := upn eX6 h_c1 hq6
    have h_k1 := ups eX6
    have hfr := hfr.trans (FB.new eX6 hq6)
    refine j_put hF h_v fl_RX4_18 dX4_makeRoom_41 rfl rfl (Nat.le_of_ble_eq_true rfl) (j_nm (fun X7 eX7 => ?_))
    have hfr := hfr.trans (FB.up eX7 h_v (by omega) (by omega))
    have h_s := upx eX7 h_s h_v (by omega)
    have h_c := upx eX7 h_c h_v (by omega)
    have h_k := upx eX7 h_k h_v (by omega)
    have h_s1 := upx eX7 h_s1 h_v (by omega)
    have h_c1 := upx eX7 h_c1 h_v (by omega)
    have h_k1 := upx eX7 h_k1 h_v (by omega)
    have h_v := ups eX7
    refine j_vret hF hR dX4_makeRoom_44 (by omega) (by omega) ?_
    exact ⟨rfl, a_s1, a_c1, a_k1, _, _, _, ⟨⟨h_v, h_s1, h_c1, h_k1⟩, hfr⟩, fun j j1 j2 => ⟨fcS j1 (by omega), fcS j1 (by omega)⟩⟩
