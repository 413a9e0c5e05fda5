/-! the tables' words that stay -/
def kw : Cond → Bool
  | .arrayClass _ => true
  | .arrayOver (.object _) => true
  | .castable .. => true
  | .methodLinkNest .. => true
  | w => w.onTables && w.keeps
theorem kw_moved {w : Cond} (hk : kw w = true) {a a' : Array Value} {s U : State} (hW : s.WarmedH U.vm) (h : w.before a s = true) : w.before a' U = true := by
  cases w with
  | arrayClass ty => exact word_at hW (Or.inr ⟨_, rfl⟩) h
  | arrayOver ty =>
    cases ty with
    | object C => exact va_AO.use (va_AO.moved hW.alike (va_AO.of h))
    | _ => exact word_at hW (Or.inl hk) h
  | castable C T => exact va_Nw.use rfl (va_Nw.warmC hW (va_Nw.of rfl h))
  | methodLinkNest x i y h0 => exact va_Nw.use rfl (va_Nw.warmM hW (va_Nw.of rfl h))
  | _ => exact word_at hW (Or.inl hk) h
def Kw (U : State) : Prop := ∀ w ∈ lw_tbl, kw w = true → w.before #[] U = true
theorem Kw.moved {s U : State} (hW : s.WarmedH U.vm) (h : Kw s) : Kw U := fun w hw hk => kw_moved hk hW (h w hw hk)
theorem Kw.at {s : State} (h : Kw s) {w : Cond} (hw : w ∈ lw_tbl ∧ kw w = true) (a : Array Value) : w.before a s = true := kw_moved hw.2 (State.WarmedH.refl s) (h w hw.1 hw.2)
/-! the abstract heap: by address, a label and a cell -/
abbrev Cel : Type := (Nat × List Value) ⊕ ((Nat × Nat × (Int → Int)) ⊕ (Nat × Nat × (Int → Option Nat)))
abbrev Hp : Type := Nat → Option (Nat × Cel)
abbrev ob (ci : Nat) (fs : List Value) : Cel := .inl (ci, fs)
abbrev ia (t n : Nat) (f : Int → Int) : Cel := .inr (.inl (t, n, f))
abbrev ra (t n : Nat) (f : Int → Option Nat) : Cel := .inr (.inr (t, n, f))
abbrev vi (z : Int) : Value := .int (Int32.ofInt z)
def ja_rl (cy : Nat → ClassId) : Cel → va_E
  | .inl o => .inr o
  | .inr (.inl a) => .inl (cy a.1, a.2.1, .inl (fun j => Int32.ofInt (a.2.2 j)))
  | .inr (.inr a) => .inl (cy a.1, a.2.1, .inr (.inr (.inr (.inr (fun j => a.2.2 j)))))
def ja_xf (cy : Nat → ClassId) (X : Hp) (a : Nat) : va_E := match X a with
  | some q => ja_rl cy q.2
  | none => .inr (0, [])
theorem ja_xf_at {cy : Nat → ClassId} {X : Hp} {a : Nat} {q : Nat × Cel} (h : X a = some q) : ja_xf cy X a = ja_rl cy q.2 := by simp [ja_xf, h]
def ja_ty : Nat → FieldType
  | 0 => .int
  | 1 => .boolean
  | 2 => .object RX2
  | 3 => .object RX3
  | _ => .object RX4
def ja_tys (cy : Nat → ClassId) : List (ClassId × FieldType) := [(cy 0, ja_ty 0), (cy 1, ja_ty 1), (cy 2, ja_ty 2), (cy 3, ja_ty 3), (cy 4, ja_ty 4)]
def ja_ok (X : Hp) : Prop := (∀ (a lb t n : Nat) (f : Int → Int), X a = some (lb, ia t n f) → n < 2147483648 ∧ ∀ j : Int, 0 ≤ j → j < n → -2147483648 ≤ f j ∧ f j ≤ 2147483647) ∧ (∀ (a lb t n : Nat) (f : Int → Option Nat), X a = some (lb, ra t n f) → n < 2147483648)
def PO (D : va_G) (cy : Nat → ClassId) (X : Hp) (A : Nat → Prop) (H : Heap) : Prop := (∃ L : List Nat, (∀ a : Nat, a ∈ L ↔ ∃ q, X a = some q) ∧ va_P D vwCl ([] ++ va_pl L (ja_xf cy X)) H ∧ va_D A ([] ++ va_pl L (ja_xf cy X))) ∧ ja_ok X
theorem PO.get {D : va_G} {cy : Nat → ClassId} {X : Hp} {A : Nat → Prop} {H : Heap} (h : PO D cy X A H) {a : Nat} {q : Nat × Cel} (hx : X a = some q) : ∃ (L : List Nat) (k : Nat), (∀ a : Nat, a ∈ L ↔ ∃ q, X a = some q) ∧ va_P D vwCl ([] ++ va_pl L (ja_xf cy X)) H ∧ va_D A ([] ++ va_pl L (ja_xf cy X)) ∧ ([] ++ va_pl L (ja_xf cy X))[k]? = some (a, ja_rl cy q.2) := by
  obtain ⟨⟨L, h1, h2, h3⟩, -⟩ := h
  obtain ⟨k, hk⟩ := va_pl_get (X := []) (f := ja_xf cy X) ((h1 a).mpr ⟨q, hx⟩)
  exact ⟨L, k, h1, h2, h3, by rw [hk, ja_xf_at hx]⟩
theorem PO.set {D : va_G} {cy : Nat → ClassId} {X : Hp} {A : Nat → Prop} {H1 : Heap} {L : List Nat} {k a : Nat} {lb : Nat} {q c : Cel} (h1 : ∀ a : Nat, a ∈ L ↔ ∃ q, X a = some q) (h3 : va_D A ([] ++ va_pl L (ja_xf cy X))) (hx : X a = some (lb, q)) (hk : ([] ++ va_pl L (ja_xf cy X))[k]? = some (a, ja_rl cy q))
    (g1 : va_P D vwCl (([] ++ va_pl L (ja_xf cy X)).set k (a, ja_rl cy c)) H1) (g2 : va_D A (([] ++ va_pl L (ja_xf cy X)).set k (a, ja_rl cy c))) (ho : ja_ok (va_up X a (some (lb, c)))) : PO D cy (va_up X a (some (lb, c))) A H1 := by
  have e1 : ja_xf cy X a = ja_rl cy q := ja_xf_at hx
  have e : ([] ++ va_pl L (ja_xf cy X)).set k (a, ja_rl cy c) = [] ++ va_pl L (ja_xf cy (va_up X a (some (lb, c)))) := by
    rw [va_pl_set h3 ((h1 a).mpr ⟨_, hx⟩) (by rw [hk, e1])]
    congr 1
    congr 1
    funext b
    by_cases hb : b = a
    · subst hb
      simp [va_up, ja_xf]
    · simp [va_up, ja_xf, hb]
  rw [e] at g1 g2
  refine ⟨⟨L, fun b => ?_, g1, g2⟩, ho⟩
  by_cases hb : b = a
  · subst hb
    simp [va_up, (h1 b).mpr ⟨_, hx⟩]
  · simp [va_up, hb, h1 b]
theorem PO.push {D : va_G} {cy : Nat → ClassId} {X : Hp} {A : Nat → Prop} {H1 : Heap} {L : List Nat} {a : Nat} {lb : Nat} {c : Cel} (h1 : ∀ a : Nat, a ∈ L ↔ ∃ q, X a = some q)
    (g1 : va_P D vwCl ([] ++ va_pl L (ja_xf cy X) ++ [(a, ja_rl cy c)]) H1) (g2 : va_D A ([] ++ va_pl L (ja_xf cy X) ++ [(a, ja_rl cy c)])) (ho : X a = none → ja_ok (va_up X a (some (lb, c)))) : X a = none ∧ PO D cy (va_up X a (some (lb, c))) A H1 := by
  have hn : a ∉ L := by
    intro hm
    obtain ⟨k, hk⟩ := va_pl_get (X := []) (f := ja_xf cy X) hm
    have hl := (List.getElem?_eq_some_iff.mp hk).1
    have q1 : ([] ++ va_pl L (ja_xf cy X) ++ [(a, ja_rl cy c)])[k]? = some (a, ja_xf cy X a) := by rw [List.getElem?_append_left hl]; exact hk
    have q2 : ([] ++ va_pl L (ja_xf cy X) ++ [(a, ja_rl cy c)])[([] ++ va_pl L (ja_xf cy X)).length]? = some (a, ja_rl cy c) := by
      rw [List.getElem?_append_right (Nat.le_refl _), Nat.sub_self]; rfl
    have := g2.1 _ _ _ _ q1 q2 rfl
    omega
  have hx : X a = none := by
    cases h : X a with
    | none => rfl
    | some q => exact absurd ((h1 a).mpr ⟨q, h⟩) hn
  have e : [] ++ va_pl L (ja_xf cy X) ++ [(a, ja_rl cy c)] = [] ++ va_pl (L ++ [a]) (ja_xf cy (va_up X a (some (lb, c)))) := by
    rw [List.nil_append, List.nil_append, va_pl_push hn]
    congr 1
    funext b
    by_cases hb : b = a
    · subst hb
      simp [va_up, ja_xf]
    · simp [va_up, ja_xf, hb]
  rw [e] at g1 g2
  refine ⟨hx, ⟨L ++ [a], fun b => ?_, g1, g2⟩, ho hx⟩
  by_cases hb : b = a
  · subst hb
    simp [va_up]
  · simp [va_up, hb, h1 b]
theorem PO.weaken {D : va_G} {cy : Nat → ClassId} {X : Hp} {A B : Nat → Prop} {H : Heap} (h : PO D cy X A H) (hAB : ∀ a, A a → B a) : PO D cy X B H := by
  obtain ⟨⟨L, h1, h2, h3⟩, h4⟩ := h
  exact ⟨⟨L, h1, h2, h3.weaken (fun _ _ _ h => hAB _ h)⟩, h4⟩
theorem PO.inA {D : va_G} {cy : Nat → ClassId} {X : Hp} {A : Nat → Prop} {H : Heap} (h : PO D cy X A H) {a : Nat} {q : Nat × Cel} (hx : X a = some q) : A a := by
  obtain ⟨L, k, h1, h2, h3, h4⟩ := h.get hx
  exact h3.2 k _ h4
theorem PO.self {D : va_G} {cy : Nat → ClassId} {X : Hp} {A : Nat → Prop} {H : Heap} (h : PO D cy X A H) {B : Nat → Prop} (hB : ∀ a q, X a = some q → B a) : PO D cy X B H := by
  obtain ⟨⟨L, h1, h2, h3⟩, h4⟩ := h
  refine ⟨⟨L, h1, h2, h3.1, fun k q hk => ?_⟩, h4⟩
  have hm : q ∈ va_pl L (ja_xf cy X) := List.mem_of_getElem? hk
  obtain ⟨a, ha, rfl⟩ := List.mem_map.mp hm
  obtain ⟨z, hz⟩ := (h1 a).mp ha
  exact hB a z hz
theorem ja_ok_set {X : Hp} {a lb : Nat} {c : Cel} (h : ja_ok X) (h1 : ∀ t n f, c = ia t n f → n < 2147483648 ∧ ∀ j : Int, 0 ≤ j → j < n → -2147483648 ≤ f j ∧ f j ≤ 2147483647) (h2 : ∀ t n f, c = ra t n f → n < 2147483648) : ja_ok (va_up X a (some (lb, c))) := by
  refine ⟨fun b lb' t n f hb => ?_, fun b lb' t n f hb => ?_⟩
  · by_cases hba : b = a
    · subst hba
      simp [va_up] at hb
      exact h1 t n f hb.2
    · rw [va_up_ne _ _ hba] at hb
      exact h.1 b lb' t n f hb
  · by_cases hba : b = a
    · subst hba
      simp [va_up] at hb
      exact h2 t n f hb.2
    · rw [va_up_ne _ _ hba] at hb
      exact h.2 b lb' t n f hb
/-- labels stay -/
def XE (X X' : Hp) : Prop := ∀ (a lb : Nat) (c : Cel), X a = some (lb, c) → ∃ c', X' a = some (lb, c')
theorem XE.refl (X : Hp) : XE X X := fun _ _ c h => ⟨c, h⟩
theorem XE.trans {X Y Z : Hp} (h : XE X Y) (g : XE Y Z) : XE X Z := fun a lb c hx => by
  obtain ⟨c', h'⟩ := h a lb c hx
  exact g a lb c' h'
theorem XE.set {X : Hp} {a lb : Nat} {c c' : Cel} (h : X a = some (lb, c)) : XE X (va_up X a (some (lb, c'))) := fun b lb' d hb => by
  by_cases hba : b = a
  · subst hba
    rw [h] at hb
    simp at hb
    exact ⟨c', by simp [va_up, hb.1]⟩
  · exact ⟨d, by rw [va_up_ne _ _ hba]; exact hb⟩
theorem XE.push {X : Hp} {a lb : Nat} {c' : Cel} (h : X a = none) : XE X (va_up X a (some (lb, c'))) := fun b lb' d hb => by
  have hba : b ≠ a := fun q => by rw [q, h] at hb; cases hb
  exact ⟨d, by rw [va_up_ne _ _ hba]; exact hb⟩
/-- after a write at a' the cell at a, of another label, is as it was -/
theorem ux {X : Hp} {a a' l l' : Nat} {c c' : Cel} {v : Option (Nat × Cel)} (h : X a = some (l, c)) (h' : X a' = some (l', c')) (hne : l ≠ l') : va_up X a' v a = some (l, c) := by
  have : a ≠ a' := fun q => by
    subst q
    rw [h] at h'
    simp at h'
    exact hne h'.1
  rw [va_up_ne _ _ this]; exact h
theorem us {X : Hp} {a : Nat} {v : Option (Nat × Cel)} : va_up X a v a = v := va_up_self X a v
/-- after a new cell at q the cell at a is as it was -/
theorem un {X : Hp} {a q : Nat} {z : Nat × Cel} {v : Option (Nat × Cel)} (h : X a = some z) (hq : X q = none) : va_up X q v a = some z := by
  have : a ≠ q := fun e => by rw [e, hq] at h; cases h
  rw [va_up_ne _ _ this]; exact h
/-! locals -/
def ja_ll : Nat → List (Option Value) → List (Nat × Value)
  | _, [] => []
  | i, none :: r => ja_ll (i + 1) r
  | i, some v :: r => (i, v) :: ja_ll (i + 1) r
theorem ja_ll_mem : ∀ (lo : List (Option Value)) (i j : Nat) (w : Value), (j, w) ∈ ja_ll i lo ↔ ∃ k, j = i + k ∧ lo[k]? = some (some w)
  | [], i, j, w => by simp [ja_ll]
  | none :: r, i, j, w => by
    rw [ja_ll, ja_ll_mem r (i + 1) j w]
    constructor
    · rintro ⟨k, rfl, h⟩
      exact ⟨k + 1, by omega, by simpa using h⟩
    · rintro ⟨k, rfl, h⟩
      cases k with
      | zero => simp at h
      | succ k => exact ⟨k, by omega, by simpa using h⟩
  | some v :: r, i, j, w => by
    rw [ja_ll, List.mem_cons, ja_ll_mem r (i + 1) j w]
    constructor
    · rintro (h | ⟨k, rfl, h⟩)
      · cases h
        exact ⟨0, rfl, rfl⟩
      · exact ⟨k + 1, by omega, by simpa using h⟩
    · rintro ⟨k, rfl, h⟩
      cases k with
      | zero => simp at h; left; rw [h]; rfl
      | succ k => right; exact ⟨k, by omega, by simpa using h⟩
def lh (ls : Array Slot) (lo : List (Option Value)) : Prop := lv_has ls lo.length (ja_ll 0 lo)
theorem lh.at {ls : Array Slot} {lo : List (Option Value)} (h : lh ls lo) {i : Nat} {v : Value} (hv : lo[i]? = some (some v)) : ls[i]? = some (.val v) := h.2.2 (i, v) ((ja_ll_mem lo 0 i v).mpr ⟨i, by omega, hv⟩)
def ok1 (lo : List (Option Value)) : Nat → Bool
  | 0 => true
  | i + 1 => match lo[i]? with
    | some (some v) => v.category == 1
    | _ => true
theorem lh.set1 {ls' : Array Slot} {lo : List (Option Value)} {i : Nat} {v : Value} (hi : i < lo.length) (hk : ok1 lo i = true) (h : lv_has ls' lo.length ((i, v) :: (ja_ll 0 lo).filter (fun q => !(q.1 == i) && !(q.1 + 1 == i && q.2.category == 2)))) : lh ls' (lo.set i (some v)) := by
  refine ⟨by rw [List.length_set]; exact h.1, h.2.1, fun q hq => ?_⟩
  obtain ⟨j, w⟩ := q
  obtain ⟨k, e, hk2⟩ := (ja_ll_mem _ _ _ _).mp hq
  have e : j = k := by omega
  subst e
  apply h.2.2
  by_cases hij : i = j
  · subst hij
    rw [List.getElem?_set_self hi] at hk2
    simp at hk2
    subst hk2
    exact List.mem_cons_self
  · rw [List.getElem?_set_ne hij] at hk2
    refine List.mem_cons_of_mem _ (List.mem_filter.mpr ⟨(ja_ll_mem _ _ _ _).mpr ⟨j, by omega, hk2⟩, ?_⟩)
    simp only [Bool.and_eq_true, Bool.not_eq_true', beq_eq_false_iff_ne, Bool.and_eq_false_iff]
    refine ⟨fun q => hij q.symm, ?_⟩
    by_cases hji : j + 1 = i
    · right
      subst hji
      simp only [ok1, hk2, beq_iff_eq] at hk
      rw [hk]
      decide
    · left; exact hji
theorem lh.set2 {ls' : Array Slot} {lo : List (Option Value)} {i : Nat} {v : Value} (hi : i + 1 < lo.length) (hk : ok1 lo i = true) (h : lv_has ls' lo.length ((i, v) :: (ja_ll 0 lo).filter (fun q => !(q.1 == i) && (!(q.1 == i + 1) && !(q.1 + 1 == i && q.2.category == 2))))) : lh ls' ((lo.set i (some v)).set (i + 1) none) := by
  refine ⟨by rw [List.length_set, List.length_set]; exact h.1, h.2.1, fun q hq => ?_⟩
  obtain ⟨j, w⟩ := q
  obtain ⟨k, e, hk2⟩ := (ja_ll_mem _ _ _ _).mp hq
  have e : j = k := by omega
  subst e
  apply h.2.2
  by_cases hij1 : i + 1 = j
  · subst hij1
    rw [List.getElem?_set_self (by rw [List.length_set]; exact hi)] at hk2
    simp at hk2
  · rw [List.getElem?_set_ne hij1] at hk2
    by_cases hij : i = j
    · subst hij
      rw [List.getElem?_set_self (by omega)] at hk2
      simp at hk2
      subst hk2
      exact List.mem_cons_self
    · rw [List.getElem?_set_ne hij] at hk2
      refine List.mem_cons_of_mem _ (List.mem_filter.mpr ⟨(ja_ll_mem _ _ _ _).mpr ⟨j, by omega, hk2⟩, ?_⟩)
      simp only [Bool.and_eq_true, Bool.not_eq_true', beq_eq_false_iff_ne, Bool.and_eq_false_iff]
      refine ⟨fun q => hij q.symm, fun q => hij1 q.symm, ?_⟩
      by_cases hji : j + 1 = i
      · right
        subst hji
        simp only [ok1, hk2, beq_iff_eq] at hk
        rw [hk]
        decide
      · left; exact hji
def eo : List Value → List (Option Value)
  | [] => []
  | v :: vs => some v :: ((if v.category = 2 then [none] else []) ++ eo vs)
theorem eo_mem : ∀ (vs : List Value) (i k : Nat) (w : Value) (n : Nat), (eo vs ++ List.replicate n none)[k]? = some (some w) → (i + k, w) ∈ lv_args i vs
  | [], i, k, w, n, h => by
    simp [eo, List.getElem?_replicate] at h
  | v :: vs, i, k, w, n, h => by
    cases k with
    | zero =>
      simp [eo] at h
      rw [lv_args, h]
      exact List.mem_cons_self
    | succ k =>
      rw [lv_args]
      refine List.mem_cons_of_mem _ ?_
      by_cases hc : v.category = 2
      · simp only [eo, hc, if_true] at h ⊢
        cases k with
        | zero => simp at h
        | succ k =>
          have := eo_mem vs (i + 2) k w n (by simpa using h)
          rwa [show i + (k + 1 + 1) = i + 2 + k by omega]
      · simp only [eo, hc, if_false] at h ⊢
        have := eo_mem vs (i + 1) k w n (by simpa using h)
        rwa [show i + (k + 1) = i + 1 + k by omega]
theorem eo_len : ∀ vs : List Value, (eo vs).length = (lg_sl vs).length
  | [] => rfl
  | v :: vs => by
    have := eo_len vs
    by_cases hc : v.category = 2
    · simp [eo, lg_sl, hc] at this ⊢; omega
    · simp [eo, lg_sl, hc] at this ⊢; omega
theorem lh.entry (vs : List Value) {n : Nat} (h : (eo vs).length ≤ n) : lh ((lg_sl vs ++ List.replicate (n - (lg_sl vs).length) Slot.unset).toArray) (eo vs ++ List.replicate (n - (eo vs).length) none) := by
  have h0 := lv_entry vs (n := n) (by rw [← eo_len]; exact h)
  refine ⟨?_, h0.2.1, fun q hq => ?_⟩
  · rw [h0.1]; simp; omega
  · obtain ⟨j, w⟩ := q
    obtain ⟨k, e, hk2⟩ := (ja_ll_mem _ _ _ _).mp hq
    have := eo_mem vs 0 k w _ hk2
    rw [e]
    exact h0.2.2 _ this
