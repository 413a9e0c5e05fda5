theorem ST.obj {X : Hp} {B st kap : Nat} {r : Int → Int} (h : ST X B st kap r) : ∃ fl, X st = some (B, ob 2 fl) := by
  obtain ⟨g, ml, ws, va, qa, oe, dc, v, q, n, m_, z, fi, hS, hV, hQ, hk⟩ := h
  exact ⟨_, hS.o1⟩
/-- the present State, the errors and the Ways -/
def NB (X : Hp) (y ea : Nat) (er : Int → Int) (mk : Nat) (gn : Int) (B st g ml ws va qa oe dc : Nat) (v_ q_ n_ m_ : Int → Nat) (z_ f_ r : Int → Int) : Prop := X ea = some (1, ia 0 4 er) ∧ WR X 100 y mk gn r ∧ SS X B st g ml ws va qa oe dc v_ q_ r ∧ VV X B v_ n_ z_ r ∧ QQ X B q_ m_ f_ r
theorem NB.keep {X X1 : Hp} {y ea mk B st g ml ws va qa oe dc : Nat} {er : Int → Int} {gn : Int} {v_ q_ n_ m_ : Int → Nat} {z_ f_ r : Int → Int} (h : NB X y ea er mk gn B st g ml ws va qa oe dc v_ q_ n_ m_ z_ f_ r) {lo hi : Nat} (hF : FB lo hi X X1) (hB : 1000 ≤ B) (hd : hi ≤ 1 ∨ (2 ≤ lo ∧ hi ≤ 100) ∨ (110 ≤ lo ∧ hi ≤ B) ∨ B + 300 ≤ lo) : NB X1 y ea er mk gn B st g ml ws va qa oe dc v_ q_ n_ m_ z_ f_ r :=
  ⟨hF _ _ _ h.1 (by omega), h.2.1.keep hF (by omega), h.2.2.1.keep hF (by omega), h.2.2.2.1.keep hF (by omega), h.2.2.2.2.keep hF (by omega)⟩
theorem OT.drop {X' : Hp} {pt ea sa y st B : Nat} {pf : Int → Int} {kr : Nat} {ad bs kp : Int → Nat} {rw_ : Int → Int → Int} (hB : LB B) (h4 : ∀ i, 0 ≤ i → i < 3 → (LB (bs i) ∧ ¬ bs i = B) ∧ ST X' (bs i) (ad i) (kp i) (rw_ i)) (h5 : ∀ i j, 0 ≤ i → i < j → j < 3 → ¬ bs i = bs j) (h6 : ∀ i, 0 ≤ i → i < 3 → rw_ i = pr pf i) (h7 : kr = kp 0 + kp 1 + kp 2) {fs : Int → Option Nat} (hp : X' pt = some (0, ob 7 [.ref ea, .ref sa, .ref y, .ref st, vi 2])) (ha : X' sa = some (2, ra 2 3 fs)) (hf : fs 0 = some (ad 1) ∧ fs 1 = some (ad 2) ∧ fs 2 = some (ad 0)) : OT X' pt ea sa y st B 2 (shk pf 109486) kr := by
  have c3 : ∀ i : Int, 0 ≤ i → i < 3 → i = 0 ∨ i = 1 ∨ i = 2 := fun i _ _ => by omega
  have p0 := h4 0 (by omega) (by omega)
  have p1 := h4 1 (by omega) (by omega)
  have p2 := h4 2 (by omega) (by omega)
  have q01 := h5 0 1 (by omega) (by omega) (by omega)
  have q02 := h5 0 2 (by omega) (by omega) (by omega)
  have q12 := h5 1 2 (by omega) (by omega) (by omega)
  refine ⟨fun i => if i = 0 then ad 1 else if i = 1 then ad 2 else ad 0, fun i => if i = 0 then bs 1 else if i = 1 then bs 2 else bs 0, fun i => if i = 0 then kp 1 else if i = 1 then kp 2 else kp 0, fs, fun i => if i = 0 then rw_ 1 else if i = 1 then rw_ 2 else rw_ 0, hp, ha, hB, fun i i1 i2 => ?_, fun i j i1 i2 i3 => ?_, fun i i1 i2 => ?_, ?_⟩
  · rcases c3 i i1 i2 with rfl | rfl | rfl
    · exact ⟨hf.1, p1⟩
    · exact ⟨hf.2.1, p2⟩
    · exact ⟨hf.2.2, p0⟩
  · rcases (show (i = 0 ∧ j = 1) ∨ (i = 0 ∧ j = 2) ∨ (i = 1 ∧ j = 2) by omega) with ⟨rfl, rfl⟩ | ⟨rfl, rfl⟩ | ⟨rfl, rfl⟩
    · exact q12
    · exact fun e => q01 e.symm
    · exact fun e => q02 e.symm
  · rw [pr_shk ⟨i1, by omega⟩]
    rcases (show i = 0 ∨ i = 1 by omega) with rfl | rfl
    · exact h6 1 (by omega) (by omega)
    · exact h6 2 (by omega) (by omega)
  · show kr = kp 1 + kp 2 + kp 0
    omega
theorem OT.put {X' : Hp} {pt ea sa y st B : Nat} {sv : Int} {pf r : Int → Int} {kr k' : Nat} {ad bs kp : Int → Nat} {fs : Int → Option Nat} {rw_ : Int → Int → Int} (hC : CAN r) (hs : 0 ≤ sv ∧ sv < 3) (hp : X' pt = some (0, ob 7 [.ref ea, .ref sa, .ref y, .ref st, vi (sv + 1)])) (ha : X' sa = some (2, ra 2 3 fs)) (hB : LB B)
    (h4 : ∀ i, 0 ≤ i → i < 3 → fs i = some (ad i) ∧ (LB (bs i) ∧ ¬ bs i = B) ∧ (¬ i = sv → ST X' (bs i) (ad i) (kp i) (rw_ i))) (hn : ST X' (bs sv) (ad sv) k' r) (h5 : ∀ i j, 0 ≤ i → i < j → j < 3 → ¬ bs i = bs j) (h6 : ∀ i, 0 ≤ i → i < sv → rw_ i = pr pf i) (h7 : kr = kp 0 + kp 1 + kp 2) : ∃ kr', OT X' pt ea sa y st B (sv + 1) (cpk pf (54743 * sv) r 54743) kr' ∧ kr' + kp sv = kr + k' := by
  refine ⟨fN kp sv k' 0 + fN kp sv k' 1 + fN kp sv k' 2, ⟨ad, bs, fN kp sv k', fs, fun i => if i = sv then r else rw_ i, hp, ha, hB, fun i i1 i2 => ⟨(h4 i i1 i2).1, (h4 i i1 i2).2.1, ?_⟩, h5, fun i i1 i2 => ?_, rfl⟩, ?_⟩
  · by_cases q : i = sv
    · subst q; rw [fN_s]; show ST X' (bs i) (ad i) k' (if i = i then r else rw_ i); rw [if_pos rfl]; exact hn
    · rw [fN_n q]; show ST X' (bs i) (ad i) (kp i) (if i = sv then r else rw_ i); rw [if_neg q]; exact (h4 i i1 i2).2.2 q
  · by_cases q : i = sv
    · subst q; show (if i = i then r else rw_ i) = _; rw [if_pos rfl, pr_cps hC]
    · show (if i = sv then r else rw_ i) = _; rw [if_neg q, pr_cpo q i1 hs.1]; exact h6 i i1 (by omega)
  · rcases (show sv = 0 ∨ sv = 1 ∨ sv = 2 by omega) with rfl | rfl | rfl
    · rw [fN_s, fN_n (by omega), fN_n (by omega)]; omega
    · rw [fN_s, fN_n (by omega), fN_n (by omega)]; omega
    · rw [fN_s, fN_n (by omega), fN_n (by omega)]; omega
set_option maxRecDepth 100000 in
set_option maxHeartbeats 4000000 in
theorem c_X7_dropOldest {X : Hp} {pt ea sa y st B : Nat} {pf : Int → Int} {kr : Nat} (hO : OT X pt ea sa y st B 3 pf kr) : Ct yX7_dropOldest cX7_dropOldest 3 none 0 0 [.ref pt] X 0 0 (fun rv X' => rv = none ∧ OT X' pt ea sa y st B 2 (shk pf 109486) kr ∧ ∃ Xm, FB 2 3 X Xm ∧ FB 0 1 Xm X') := by
  refine Ct.of (by decide +kernel) [some (.ref pt), none, none] rfl (Nat.le_of_ble_eq_true rfl) (fun φ hF hR => ?_)
  obtain ⟨ad, bs, kp, fs, rw_, hp, ha, hLB, h4, h5, h6, h7⟩ := id hO
  obtain ⟨ol0, hob0⟩ := (h4 0 (by omega) (by omega)).2.2.obj
  refine j_aload_n hF dX7_dropOldest_0 rfl (j_get hF hp fl_RX7_15 dX7_dropOldest_1 rfl (j_iconst hF dX7_dropOldest_4 (j_aald hF (by decide) ha dX7_dropOldest_5 (by omega) (h4 0 (by omega) (by omega)).1 (j_astore_n hF dX7_dropOldest_6 (Nat.le_of_ble_eq_true rfl) rfl (j_iconst hF dX7_dropOldest_7 ?_)))))
  refine j_istore_n hF dX7_dropOldest_8 (Nat.le_of_ble_eq_true rfl) rfl ?_
  have LL : ∀ (n : Nat) (k : Int) (Y : Hp) (fk : Int → Option Nat), (3 - k).toNat < n → 1 ≤ k ∧ k ≤ 3 → FB 2 3 X Y → Y pt = some (0, ob 7 [.ref ea, .ref sa, .ref y, .ref st, vi 3]) → Y sa = some (2, ra 2 3 fk) → (∀ i, 0 ≤ i → i < k - 1 → fk i = some (ad (i + 1))) → (∀ i, k - 1 < i → i < 3 → fk i = some (ad i)) → Jd φ Y 0 0 9 [some (.ref pt), some (.ref (ad 0)), some (vi k)] [] := by
    intro n
    induction n with
    | zero => intro k Y fk hfu; exact absurd hfu (by omega)
    | succ n ih =>
      intro k Y fk hfu hk hFs hp ha hf1 hf2
      refine j_iload_n hF dX7_dropOldest_9 rfl (j_iconst hF dX7_dropOldest_10 (j_icmp_ge hF 34 dX7_dropOldest_11 (by decide) (by omega) (fun c11 => ?_) (fun c11 => ?_)))
      ·
        have ek : k = 3 := by omega
        subst ek
        have hob0 := hFs _ _ _ hob0 (by have := (h4 0 (by omega) (by omega)).2.1.1; unfold LB at this; omega)
        refine j_aload_n hF dX7_dropOldest_34 rfl (j_get hF hp fl_RX7_15 dX7_dropOldest_35 rfl (j_iconst hF dX7_dropOldest_38 (j_aload_n hF dX7_dropOldest_39 rfl (j_aast hF (by decide) ha hob0 rfl dX7_dropOldest_40 (by omega) (j_nm (fun X1 eX1 => ?_))))))
        have hFs : FB 2 3 X X1 := hFs.trans (FB.up eX1 ha (by omega) (by omega))
        have hp := upx eX1 hp ha (by omega)
        have ha := ups eX1
        refine j_aload_n hF dX7_dropOldest_41 rfl (j_dup hF dX7_dropOldest_42 rfl (j_get hF hp fl_RX7_232 dX7_dropOldest_43 rfl (j_iconst hF dX7_dropOldest_46 (j_isub hF dX7_dropOldest_47 (j_put hF hp fl_RX7_232 dX7_dropOldest_48 rfl rfl (Nat.le_of_ble_eq_true rfl) (j_nm (fun X2 eX2 => ?_)))))))
        have hFp : FB 0 1 X1 X2 := FB.up eX2 hp (by omega) (by omega)
        have hp := ups eX2
        have ha := hFp _ _ _ ha (by omega)
        refine j_vret hF hR dX7_dropOldest_51 (by omega) (by omega) ?_
        refine ⟨rfl, OT.drop hLB (fun i i1 i2 => ⟨(h4 i i1 i2).2.1, ((h4 i i1 i2).2.2.keep hFs (by have := (h4 i i1 i2).2.1.1; unfold LB at this; omega)).keep hFp (by have := (h4 i i1 i2).2.1.1; unfold LB at this; omega)⟩) h5 h6 h7 hp ha ⟨?_, ?_, ?_⟩, _, hFs, hFp⟩
        · rw [fo_n (by omega)]; exact hf1 0 (by omega) (by omega)
        · rw [fo_n (by omega)]; exact hf1 1 (by omega) (by omega)
        · rw [fo_s]
      ·
        obtain ⟨ol, hob⟩ := (h4 k (by omega) (by omega)).2.2.obj
        have hob := hFs _ _ _ hob (by have := (h4 k (by omega) (by omega)).2.1.1; unfold LB at this; omega)
        refine j_aload_n hF dX7_dropOldest_14 rfl (j_get hF hp fl_RX7_15 dX7_dropOldest_15 rfl (j_iload_n hF dX7_dropOldest_18 rfl (j_iconst hF dX7_dropOldest_19 (j_isub hF dX7_dropOldest_20 (j_aload_n hF dX7_dropOldest_21 rfl ?_)))))
        refine j_get hF hp fl_RX7_15 dX7_dropOldest_22 rfl (j_iload_n hF dX7_dropOldest_25 rfl (j_aald hF (by decide) ha dX7_dropOldest_26 (by omega) (hf2 k (by omega) (by omega)) (j_aast hF (by decide) ha hob rfl dX7_dropOldest_27 (by omega) (j_nm (fun X3 eX3 => ?_)))))
        have hFs : FB 2 3 X X3 := hFs.trans (FB.up eX3 ha (by omega) (by omega))
        have hp := upx eX3 hp ha (by omega)
        have ha := ups eX3
        refine j_iinc hF dX7_dropOldest_28 rfl (Nat.le_of_ble_eq_true rfl) rfl (j_goto hF 9 dX7_dropOldest_31 (by decide) ?_)
        refine ih (k + 1) _ _ (by omega) (by omega) hFs hp ha (fun i i1 i2 => ?_) (fun i i1 i2 => ?_)
        · by_cases q : i = k - 1
          · rw [q, fo_s, show k - 1 + 1 = k by omega]
          · rw [fo_n q]; exact hf1 i i1 (by omega)
        · rw [fo_n (by omega)]; exact hf2 i (by omega) i2
  exact LL 3 1 X fs (by omega) (by omega) (FB.refl _ _ X) hp ha (fun i i1 i2 => absurd i2 (by omega)) (fun i i1 i2 => (h4 i (by omega) i2).1)

