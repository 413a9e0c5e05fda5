/-! ProgressTracker -/
theorem ST.keep {X X1 : Hp} {B st kap : Nat} {r : Int → Int} (h : ST X B st kap r) {lo hi : Nat} (hF : FB lo hi X X1) (hd : B + 300 ≤ lo ∨ hi ≤ B) : ST X1 B st kap r := by
  obtain ⟨g, ml, ws, va, qa, oe, dc, v, q, n, m_, z, fi, hS, hV, hQ, hk⟩ := h
  exact ⟨g, ml, ws, va, qa, oe, dc, v, q, n, m_, z, fi, hS.keep hF (by omega), hV.keep hF (by omega), hQ.keep hF (by omega), hk⟩
/-- rows whose graphs are the same -/
def SG (r r' : Int → Int) : Prop := ∀ i, 0 ≤ i → i < 47 → (i < 2 ∨ 5 ≤ i) → (i < 11 ∨ 17 ≤ i) → r' i = r i
theorem SG.refl (r : Int → Int) : SG r r := fun _ _ _ _ _ => rfl
theorem SG.symm {r r' : Int → Int} (h : SG r r') : SG r' r := fun i a b c d => (h i a b c d).symm
theorem SG.trans {r r' r2 : Int → Int} (h : SG r r') (g : SG r' r2) : SG r r2 := fun i a b c d => (g i a b c d).trans (h i a b c d)
theorem SG.gi {r r' : Int → Int} (h : SG r r') (hG : GI r) : GI r' := hG.eq (fun i a b c d e f => h i a b (by omega) f)
theorem SG.kind {r r' : Int → Int} (h : SG r r') (hG : GI r) {j : Int} (h1 : 0 ≤ j) (h2 : j < 10) : m_kind r' j = m_kind r j := by
  have g := hG.ed j h1 h2
  unfold m_kind
  rw [h (37 + j) (by omega) (by omega) (by omega) (by omega), h (27 + j) (by omega) (by omega) (by omega) (by omega), h (17 + j) (by omega) (by omega) (by omega) (by omega), h (5 + r (27 + j)) (by omega) (by omega) (by omega) (by omega), h (5 + r (17 + j)) (by omega) (by omega) (by omega) (by omega)]
theorem SG.moved {r r' : Int → Int} (h : SG r r') (hG : GI r) {j c : Int} (h1 : 0 ≤ j) (h2 : j < 10) : m_moved r' j c = m_moved r j c := by
  have g := hG.ed j h1 h2
  unfold m_moved
  rw [h.kind hG h1 h2, h (17 + j) (by omega) (by omega) (by omega) (by omega), h (5 + r (17 + j)) (by omega) (by omega) (by omega) (by omega)]
theorem SG.rc {r r' : Int → Int} (h : SG r r') (hG : GI r) {a c b d : Int} (ha : 0 ≤ a ∧ a < 16) (hr : Rc r a c b d) : Rc r' a c b d := by
  have e1 := h 1 (by omega) (by omega) (by omega) (by omega)
  have g1 := hG.2.1
  intro S h0 hS
  refine (hr (fun p x => (0 ≤ p ∧ p < 16) ∧ S p x) ⟨ha, h0⟩ (fun p x q y hp st => ?_)).2
  rcases st with ⟨s1, e, s2, s3, s4, s5, s6⟩ | ⟨s1, s2, s3, s4⟩
  · exact ⟨by omega, hS p x q y hp.2 (Or.inl ⟨s1, e, s2, by rw [e1]; exact s3, by rw [h (17 + e) (by omega) (by omega) (by omega) (by omega)]; exact s4, s5, s6⟩)⟩
  · have g := hG.ed (p - 6) (by omega) (by omega)
    have e2 : r' (27 + p - 6) = r (27 + p - 6) := h _ (by omega) (by omega) (by omega) (by omega)
    have e3 : r (27 + (p - 6)) = r (27 + p - 6) := by congr 1; omega
    refine ⟨by omega, hS p x q y hp.2 (Or.inr ⟨s1, ?_, by rw [e2]; exact s3, ?_⟩)⟩
    · rw [h.moved hG (by omega) (by omega)]; exact s2
    · rw [h.moved hG (by omega) (by omega)]; exact s4
theorem SG.ils {r r' : Int → Int} (h : SG r r') (hG : GI r) {a c p v : Int} (ha : 0 ≤ a ∧ a < 16) (hi : ILs r a c p v) : ILs r' a c p v := by
  have hG' := h.gi hG
  rcases hi with ⟨h1, h2⟩ | ⟨h1, h2, h3⟩
  · exact Or.inl ⟨h1, fun d hd => h2 d (h.symm.rc hG' ha hd)⟩
  · exact Or.inr ⟨h1, h.rc hG ha h2, fun d hd => h3 d (h.symm.rc hG' ha hd)⟩
theorem WR.row {X : Hp} {b y mk : Nat} {gn : Int} {r r' : Int → Int} (h : WR X b y mk gn r) (hG : GI r) (e : SG r r') : WR X b y mk gn r' := by
  obtain ⟨l, i, s, p, pc, sr, fl, ff, fs, fp, hM, hm, h1, h2, h3⟩ := h
  exact ⟨l, i, s, p, pc, sr, fl, ff, fs, fp, hM, hm, h1, h2, fun hk => ⟨(h3 hk).1, (h3 hk).2.1, fun a c a1 a2 a3 a4 a5 q q1 q2 => e.ils hG ⟨a1, a2⟩ ((h3 hk).2.2 a c a1 a2 a3 a4 a5 q q1 q2)⟩⟩
/-- nothing outside the row -/
def CAN (r : Int → Int) : Prop := ∀ j, (j < 0 ∨ 54743 ≤ j) → r j = 0
theorem CAN.fu {r : Int → Int} {i v : Int} (h : CAN r) (hi : 0 ≤ i ∧ i < 54743) : CAN (fu r i v) := fun j hj => by rw [fu_n (by omega)]; exact h j hj
/-- the i-th saved row -/
def pr (pf : Int → Int) (i : Int) : Int → Int := fun j => if 0 ≤ j ∧ j < 54743 then pf (54743 * i + j) else 0
theorem pr_und {pf r : Int → Int} {i : Int} (h : CAN r) : cpk r 0 (fun j => pf (54743 * i + j)) 54743 = pr pf i := by
  funext j
  unfold cpk pr
  by_cases q : 0 ≤ j ∧ j < 54743
  · rw [if_pos (by omega), if_pos q]; congr 1; omega
  · rw [if_neg (by omega), if_neg q]; exact h j (by omega)
theorem pr_shk {pf : Int → Int} {i : Int} (h : 0 ≤ i ∧ i < 2) : pr (shk pf 109486) i = pr pf (i + 1) := by
  funext j
  unfold shk pr
  by_cases q : 0 ≤ j ∧ j < 54743
  · rw [if_pos q, if_pos q]
    show (if 0 ≤ 54743 * i + j ∧ 54743 * i + j < 109486 then _ else _) = _
    rw [if_pos (by omega)]; congr 1; omega
  · rw [if_neg q, if_neg q]
theorem pr_cpo {pf r : Int → Int} {i k : Int} (h : ¬ i = k) (hi : 0 ≤ i) (hk : 0 ≤ k) : pr (cpk pf (54743 * k) r 54743) i = pr pf i := by
  funext j
  unfold cpk pr
  by_cases q : 0 ≤ j ∧ j < 54743
  · rw [if_pos q, if_pos q]
    show (if 54743 * k ≤ 54743 * i + j ∧ 54743 * i + j < 54743 * k + 54743 then _ else _) = _
    rw [if_neg (by omega)]
  · rw [if_neg q, if_neg q]
theorem pr_cps {pf r : Int → Int} {k : Int} (h : CAN r) : pr (cpk pf (54743 * k) r 54743) k = r := by
  funext j
  unfold cpk pr
  by_cases q : 0 ≤ j ∧ j < 54743
  · rw [if_pos q]
    show (if 54743 * k ≤ 54743 * k + j ∧ 54743 * k + j < 54743 * k + 54743 then _ else _) = _
    rw [if_pos (by omega)]; congr 1; omega
  · rw [if_neg q, h j (by omega)]
def LB (B : Nat) : Prop := B = 1000 ∨ B = 2000 ∨ B = 3000 ∨ B = 4000
/-- the tracker, but for its errors, its Ways and its present State -/
def OT (X : Hp) (pt ea sa y st B : Nat) (sv : Int) (pf : Int → Int) (kr : Nat) : Prop := ∃ (ad bs kp : Int → Nat) (fs : Int → Option Nat) (rw_ : Int → Int → Int),
  X pt = some (0, ob 7 [.ref ea, .ref sa, .ref y, .ref st, vi sv]) ∧ X sa = some (2, ra 2 3 fs) ∧ LB B
  ∧ (∀ i, 0 ≤ i → i < 3 → fs i = some (ad i) ∧ (LB (bs i) ∧ ¬ bs i = B) ∧ ST X (bs i) (ad i) (kp i) (rw_ i))
  ∧ (∀ i j, 0 ≤ i → i < j → j < 3 → ¬ bs i = bs j) ∧ (∀ i, 0 ≤ i → i < sv → rw_ i = pr pf i) ∧ kr = kp 0 + kp 1 + kp 2
theorem OT.keep {X X1 : Hp} {pt ea sa y st B : Nat} {sv : Int} {pf : Int → Int} {kr : Nat} (h : OT X pt ea sa y st B sv pf kr) {lo hi : Nat} (hF : FB lo hi X X1) (hd : (3 ≤ lo ∧ hi ≤ 1000) ∨ (1 ≤ lo ∧ hi ≤ 2) ∨ (B ≤ lo ∧ hi ≤ B + 300) ∨ 4300 ≤ lo) : OT X1 pt ea sa y st B sv pf kr := by
  obtain ⟨ad, bs, kp, fs, rw_, h1, h2, h3, h4, h5, h6, h7⟩ := h
  have b1 := h3
  unfold LB at b1
  refine ⟨ad, bs, kp, fs, rw_, hF _ _ _ h1 (by omega), hF _ _ _ h2 (by omega), h3, fun i i1 i2 => ⟨(h4 i i1 i2).1, (h4 i i1 i2).2.1, (h4 i i1 i2).2.2.keep hF ?_⟩, h5, h6, h7⟩
  have b2 := (h4 i i1 i2).2.1
  unfold LB at b2
  omega
theorem OT.pt {X : Hp} {pt ea sa y st B : Nat} {sv : Int} {pf : Int → Int} {kr : Nat} (h : OT X pt ea sa y st B sv pf kr) : X pt = some (0, ob 7 [.ref ea, .ref sa, .ref y, .ref st, vi sv]) ∧ LB B := by
  obtain ⟨ad, bs, kp, fs, rw_, h1, h2, h3, h4⟩ := h
  exact ⟨h1, h3⟩
theorem OT.le {X : Hp} {pt ea sa y st B : Nat} {sv : Int} {pf : Int → Int} {kr : Nat} (h : OT X pt ea sa y st B sv pf kr) : kr ≤ 290316 := by
  obtain ⟨ad, bs, kp, fs, rw_, h1, h2, h3, h4, h5, h6, h7⟩ := h
  have a0 := (h4 0 (by omega) (by omega)).2.2.le
  have a1 := (h4 1 (by omega) (by omega)).2.2.le
  have a2 := (h4 2 (by omega) (by omega)).2.2.le
  omega
def PP (X : Hp) (pt kap : Nat) (c : Int) (σ : St) : Prop := ∃ (ea sa y st B mk : Nat) (gn : Int) (kn kr : Nat), OT X pt ea sa y st B σ.2.2.1 σ.2.1 kr ∧ X ea = some (1, ia 0 4 σ.2.2.2) ∧ WR X 100 y mk gn σ.1 ∧ gn ≤ 1 + c ∧ ST X B st kn σ.1 ∧ kap = kn + kr + 5067 * mk
theorem PP.mono {X : Hp} {pt kap : Nat} {c c' : Int} {σ : St} (h : PP X pt kap c σ) (hc : c ≤ c') : PP X pt kap c' σ := by
  obtain ⟨ea, sa, y, st, B, mk, gn, kn, kr, h1, h2, h3, h4, h5, h6⟩ := h
  exact ⟨ea, sa, y, st, B, mk, gn, kn, kr, h1, h2, h3, by omega, h5, h6⟩
def PPQ (X X' : Hp) (pt kap : Nat) (c : Int) (σ : St) (k n : Nat) : Prop := ∃ kap', PP X' pt kap' c σ ∧ FB 0 5000 X X' ∧ kap ≤ kap' ∧ k ≤ kap' - kap ∧ n ≤ 6 * (kap' - kap)
theorem PV {X X' : Hp} {pt kap kap' : Nat} {c : Int} {Z : Int × St} {a : Int} {σ : St} {k n : Nat} (h : Z = (a, σ)) (hP : PP X' pt kap' c σ) (hF : FB 0 5000 X X') (h1 : kap ≤ kap') (h2 : k ≤ kap' - kap) (h3 : n ≤ 6 * (kap' - kap)) : some (vi a) = some (vi Z.1) ∧ PPQ X X' pt kap c Z.2 k n := by
  subst h
  exact ⟨rfl, kap', hP, hF, h1, h2, h3⟩
set_option maxRecDepth 100000 in
set_option maxHeartbeats 4000000 in
theorem c_X7_fail {X : Hp} {pt kap : Nat} {ct : Int} {r pf : Int → Int} {sv : Int} {er : Int → Int} (hP : PP X pt kap ct (r, pf, sv, er)) (hE : EI er) {c : Int} (hc : -5 ≤ c ∧ c ≤ -2) : Ct yX7_fail cX7_fail 2 (some .int) 0 0 [.ref pt, vi c] X 0 0 (fun rv X' => rv = some (vi c) ∧ PP X' pt kap ct (r, pf, sv, fe er c) ∧ FB 0 5000 X X') := by
  refine Ct.of (by decide +kernel) [some (.ref pt), some (vi c)] rfl (Nat.le_of_ble_eq_true rfl) (fun φ hF hR => ?_)
  obtain ⟨ea, sa, y, st, B, mk, gn, kn, kr, hO, hea, hWR, hgn, hST, hkap⟩ := hP
  dsimp only at hO hea hWR hST
  refine j_aload_n hF dX7_fail_0 rfl (j_get hF hO.pt.1 fl_RX7_9 dX7_fail_1 rfl (j_bipush hF dX7_fail_4 (by decide) (j_iload_n hF dX7_fail_6 rfl (j_isub hF dX7_fail_7 (j_dup2 hF dX7_fail_8 rfl rfl ?_)))))
  refine j_iald hF hea dX7_fail_9 (by omega) (fun ra1 rb1 => ?_)
  have e1 := hE (-2 - c) (by omega) (by omega)
  refine j_iconst hF dX7_fail_10 (j_iadd hF dX7_fail_11 (j_iast hF hea dX7_fail_12 (by omega) (by omega) (j_nm (fun X2 eX2 => ?_))))
  have hFe : FB 1 2 X X2 := FB.up eX2 hea (by omega) (by omega)
  have hea := ups eX2
  refine j_iload_n hF dX7_fail_13 rfl (j_iret hF hR dX7_fail_14 (by omega) (by omega) ?_)
  have hB := hO.pt.2
  unfold LB at hB
  exact ⟨rfl, ⟨ea, sa, y, st, B, mk, gn, kn, kr, hO.keep hFe (by omega), hea, hWR.keep hFe (by omega), hgn, hST.keep hFe (by omega), hkap⟩, hFe.mono (by omega) (by omega)⟩

