def sg (y : Int) : Int := if y % 2 = 1 then 1 else -1
/-- a view after the first updates of a queue -/
noncomputable def mv (g : Int → Int) (n : Nat) (sz : Int) (f : Int → Int) : Nat → Nat × Int × (Int → Int)
  | 0 => (n, sz, f)
  | i + 1 => (vc (mv g n sz f i).1 (mv g n sz f i).2.1 (mv g n sz f i).2.2 (g i / 2), vz (mv g n sz f i).2.1 (mv g n sz f i).2.2 (g i / 2) (sg (g i)), fu (mv g n sz f i).2.2 (g i / 2) ((mv g n sz f i).2.2 (g i / 2) + sg (g i)))
theorem mv_s (g : Int → Int) (n : Nat) (sz : Int) (f : Int → Int) (i : Nat) : mv g n sz f (i + 1) = (vc (mv g n sz f i).1 (mv g n sz f i).2.1 (mv g n sz f i).2.2 (g i / 2), vz (mv g n sz f i).2.1 (mv g n sz f i).2.2 (g i / 2) (sg (g i)), fu (mv g n sz f i).2.2 (g i / 2) ((mv g n sz f i).2.2 (g i / 2) + sg (g i))) := rfl
theorem mv_mono (g : Int → Int) (n : Nat) (sz : Int) (f : Int → Int) (i : Nat) : ∀ k : Nat, (mv g n sz f i).1 ≤ (mv g n sz f (i + k)).1
  | 0 => Nat.le_refl _
  | k + 1 => Nat.le_trans (mv_mono g n sz f i k) (vc_ge _ _ _ _)
theorem mv_le {g : Int → Int} {n : Nat} {sz : Int} {f : Int → Int} {i k : Nat} (h : i ≤ k) : (mv g n sz f i).1 ≤ (mv g n sz f k).1 := by
  have := mv_mono g n sz f i (k - i)
  rw [show i + (k - i) = k by omega] at this
  exact this
theorem sg_rg (y : Int) : -1 ≤ sg y ∧ sg y ≤ 1 := by unfold sg; split <;> omega
theorem mv_bnd {g : Int → Int} {n : Nat} {sz B : Int} {f : Int → Int} (hf : ∀ x, 0 ≤ x → x < 16000 → -B ≤ f x ∧ f x ≤ B) : ∀ (i : Nat) (x : Int), 0 ≤ x → x < 16000 → -(B + i) ≤ (mv g n sz f i).2.2 x ∧ (mv g n sz f i).2.2 x ≤ B + i
  | 0, x, h1, h2 => by have := hf x h1 h2; show -(B + ((0 : Nat) : Int)) ≤ f x ∧ f x ≤ B + ((0 : Nat) : Int); omega
  | i + 1, x, h1, h2 => by
    have hI := mv_bnd (g := g) (n := n) (sz := sz) hf i x h1 h2
    rw [mv_s]
    show -(B + ((i + 1 : Nat) : Int)) ≤ fu (mv g n sz f i).2.2 (g i / 2) ((mv g n sz f i).2.2 (g i / 2) + sg (g i)) x ∧ fu (mv g n sz f i).2.2 (g i / 2) ((mv g n sz f i).2.2 (g i / 2) + sg (g i)) x ≤ B + ((i + 1 : Nat) : Int)
    by_cases e : x = g i / 2
    · rw [← e, fu_s]; have := sg_rg (g i); omega
    · rw [fu_n e]; omega
/-- cells of other labels than those of two blocks stay -/
def F2 (b1 b2 : Nat) (X X' : Hp) : Prop := ∀ (a l : Nat) (c : Cel), X a = some (l, c) → (l < b1 ∨ b1 + 10 ≤ l) → (l < b2 ∨ b2 + 10 ≤ l) → X' a = some (l, c)
theorem F2.refl (b1 b2 : Nat) (X : Hp) : F2 b1 b2 X X := fun _ _ _ h _ _ => h
theorem F2.l {b1 b2 : Nat} {X X1 X2 : Hp} (h : F2 b1 b2 X X1) (g : FB b1 (b1 + 10) X1 X2) : F2 b1 b2 X X2 := fun a l c h1 h2 h3 => g a l c (h a l c h1 h2 h3) h2
theorem F2.r {b1 b2 : Nat} {X X1 X2 : Hp} (h : F2 b1 b2 X X1) (g : FB b2 (b2 + 10) X1 X2) : F2 b1 b2 X X2 := fun a l c h1 h2 h3 => g a l c (h a l c h1 h2 h3) h3
theorem VR.obj {X : Hp} {b v n : Nat} {sz : Int} {f : Int → Int} (h : VR X b v n sz f) : ∃ fl, X v = some (b, ob 4 fl) := by
  obtain ⟨s, c, k, fs, fv, fk, hM, _⟩ := h
  exact ⟨_, hM.1⟩
theorem QR.obj {X : Hp} {b q n : Nat} {fi sz : Int} {g : Int → Int} (h : QR X b q n fi sz g) : ∃ fl, X q = some (b, ob 3 fl) := by
  obtain ⟨u, fq, hM, _⟩ := h
  exact ⟨_, hM.1⟩
set_option maxRecDepth 100000 in
set_option maxHeartbeats 4000000 in
theorem c_X3_moveTo {X : Hp} {b q n : Nat} {fi sz : Int} {g : Int → Int} (hR0 : QR X b q n fi sz g) {b2 v nv : Nat} {sv : Int} {f : Int → Int} (hV0 : VR X b2 v nv sv f) (hdis : b2 + 10 ≤ b ∨ b + 10 ≤ b2) {li : Int} (hl : 1 ≤ li ∧ li ≤ 99) {k n' : Nat} (hk : (k : Int) = if li ≤ sz then li else sz) (hn' : n' = (mv g nv sv f k).1) (hg : ∀ i, 0 ≤ i → i < sz → 0 ≤ g i ∧ g i < 32000) (hf : ∀ x, 0 ≤ x → x < 16000 → -900000 ≤ f x ∧ f x ≤ 900000) : Ct yX3_moveTo cX3_moveTo 6 (some .int) 5 120 [.ref q, .ref v, vi li] X (n' - nv) (6 * (n' - nv)) (fun rv X' => rv = some (vi (k : Int)) ∧ QR X' b q n (fi + (k : Int)) (sz - (k : Int)) (fun i => g ((k : Int) + i)) ∧ VR X' b2 v n' (mv g nv sv f k).2.1 (mv g nv sv f k).2.2 ∧ F2 b b2 X X') := by
  refine Ct.of (by decide +kernel) [some (.ref q), some (.ref v), some (vi li), none, none, none] rfl (Nat.le_of_ble_eq_true rfl) (fun φ hF hR => ?_)
  subst hn'
  obtain ⟨u, fq, hM, hc0, hz, hQC⟩ := hR0
  have hrg := hQC.rg
  have hk0 : (k : Int) ≤ sz ∧ (k : Int) ≤ 99 := by rw [hk]; split <;> omega
  refine j_iload_n hF dX3_moveTo_0 rfl (j_aload_n hF dX3_moveTo_1 rfl (j_get hF hM.1 fl_RX3_13 dX3_moveTo_2 rfl (j_callS hF (c_J9_min_7cf53 (by omega) (by omega)) ms_J9_min_7cf53 mt_J9_min_7cf53 lk_RX3_23 dX3_moveTo_5 rfl rfl rfl (by simp [Value.category]) ⟨⟨(Nat.le_of_ble_eq_true rfl), (Nat.le_of_ble_eq_true rfl)⟩, by omega, by omega⟩ (fun v1 X1 hp1 hE1 => ?_))))
  obtain ⟨rfl, he1⟩ := hp1; obtain rfl := he1.symm
  rw [← hk]
  refine j_istore_n hF dX3_moveTo_8 (Nat.le_of_ble_eq_true rfl) rfl (j_iconst hF dX3_moveTo_9 (j_istore hF dX3_moveTo_10 (Nat.le_of_ble_eq_true rfl) rfl ?_))
  have LL : ∀ (nf : Nat) (i : Nat) (X1 : Hp), (k - i) < nf → i ≤ k → QP X1 b q u n fi sz fq → VR X1 b2 v (mv g nv sv f i).1 (mv g nv sv f i).2.1 (mv g nv sv f i).2.2 → F2 b b2 X X1 → Jd φ X1 ((mv g nv sv f i).1 - nv) (6 * ((mv g nv sv f i).1 - nv)) 12 [some (.ref q), some (.ref v), some (vi li), some (vi (k : Int)), some (vi (i : Int)), none] [] := by
    intro nf
    induction nf with
    | zero => intro i X1 hfu; exact absurd hfu (by omega)
    | succ nf ih =>
      intro i X1 hfu hi hM hV hk1
      obtain ⟨ol, hob⟩ := hV.obj
      refine j_iload hF dX3_moveTo_12 rfl (j_iload_n hF dX3_moveTo_14 rfl (j_icmp_ge hF 62 dX3_moveTo_15 (by decide) (by omega) (fun c15 => ?_) (fun c15 => ?_)))
      ·
        have ek : i = k := by omega
        subst ek
        have mm1 := mv_le (g := g) (n := nv) (sz := sv) (f := f) (Nat.zero_le i)
        have mm0 : (mv g nv sv f 0).1 = nv := rfl
        refine j_aload_n hF dX3_moveTo_62 rfl (j_dup hF dX3_moveTo_63 rfl (j_get hF hM.1 fl_RX3_17 dX3_moveTo_64 rfl (j_iload_n hF dX3_moveTo_67 rfl (j_iadd hF dX3_moveTo_68 (j_put hF hM.1 fl_RX3_17 dX3_moveTo_69 rfl rfl (Nat.le_of_ble_eq_true rfl) (j_nm (fun X1 eX1 => ?_)))))))
        have hV := hV.keep (FB.up (lo := b) (hi := b + 10) eX1 hM.1 (by omega) (by omega)) (by omega)
        have hk1 := hk1.l (FB.up eX1 hM.1 (by omega) (by omega))
        have hM : QP X1 b q u n (fi + (i : Int)) sz fq := ⟨ups eX1, upx eX1 hM.2 hM.1 (by omega)⟩
        refine j_aload_n hF dX3_moveTo_72 rfl (j_dup hF dX3_moveTo_73 rfl (j_get hF hM.1 fl_RX3_13 dX3_moveTo_74 rfl (j_iload_n hF dX3_moveTo_77 rfl (j_isub hF dX3_moveTo_78 (j_put hF hM.1 fl_RX3_13 dX3_moveTo_79 rfl rfl (Nat.le_of_ble_eq_true rfl) (j_nm (fun X2 eX2 => ?_)))))))
        have hV := hV.keep (FB.up (lo := b) (hi := b + 10) eX2 hM.1 (by omega) (by omega)) (by omega)
        have hk1 := hk1.l (FB.up eX2 hM.1 (by omega) (by omega))
        have hM : QP X2 b q u n (fi + (i : Int)) (sz - (i : Int)) fq := ⟨ups eX2, upx eX2 hM.2 hM.1 (by omega)⟩
        refine j_iload_n hF dX3_moveTo_82 rfl (j_iret hF hR dX3_moveTo_83 (by omega) (by omega) ?_)
        refine ⟨rfl, ⟨u, fq, hM, fun j j1 j2 => ?_, by omega, hQC⟩, hV, hk1⟩
        rw [show fi + (i : Int) + j = fi + ((i : Int) + j) by omega]
        exact hc0 ((i : Int) + j) (by omega) (by omega)
      ·
        have g0 := hg (i : Int) (by omega) (by omega)
        have mm1 := mv_le (g := g) (n := nv) (sz := sv) (f := f) (Nat.zero_le i)
        have mm2 := mv_le (g := g) (n := nv) (sz := sv) (f := f) (show i ≤ i + 1 by omega)
        have mm3 := mv_le (g := g) (n := nv) (sz := sv) (f := f) (show i + 1 ≤ k by omega)
        have mm0 : (mv g nv sv f 0).1 = nv := rfl
        have mr1 := mv_bnd (g := g) (n := nv) (sz := sv) (B := 900000) hf i (g (i : Int) / 2) (by omega) (by omega)
        refine j_aload_n hF dX3_moveTo_18 rfl (j_get hF hM.1 fl_RX3_9 dX3_moveTo_19 rfl (j_aload_n hF dX3_moveTo_22 rfl (j_get hF hM.1 fl_RX3_17 dX3_moveTo_23 rfl (j_iload hF dX3_moveTo_26 rfl (j_iadd hF dX3_moveTo_28 ?_)))))
        refine j_iald hF hM.2 dX3_moveTo_29 (by omega) (fun ra3 rb3 => ?_)
        rw [hc0 (i : Int) (by omega) (by omega)]
        refine j_istore hF dX3_moveTo_30 (Nat.le_of_ble_eq_true rfl) rfl (j_iload hF dX3_moveTo_32 rfl (j_if_lt hF 47 dX3_moveTo_34 (by decide) (by unfold en; split <;> omega) (fun c34 => ?_) (fun c34 => ?_)))
        ·
          have hpar : ¬ g (i : Int) % 2 = 1 := fun q => absurd c34 (by unfold en; rw [if_pos q]; omega)
          have een : en (g (i : Int)) = - (g (i : Int) / 2) - 1 := if_neg hpar
          rw [een]
          refine j_aload_n hF dX3_moveTo_47 rfl (j_iload hF dX3_moveTo_48 rfl (j_iconst hF dX3_moveTo_50 (j_ixor hF (g (i : Int) / 2) (by rw [xr]; congr 1; omega) dX3_moveTo_51 (j_iconst hF dX3_moveTo_52 (j_callV hF (c_X4_change hV (n' := (mv g nv sv f (i + 1)).1) (c := -1) (by rw [mv_s]) (by omega) (by omega) (by omega)) ms_X4_change mv_X4_change lk_RX3_29 dX3_moveTo_53 hob rfl rfl rfl (by simp [Value.category]) ⟨⟨(Nat.le_of_ble_eq_true rfl), (Nat.le_of_ble_eq_true rfl)⟩, by omega, by omega⟩ (fun v4 X4 hp4 hE4 => ?_))))))
          obtain ⟨rfl, hV1, hf1⟩ := hp4
          have hs : sg (g (i : Int)) = -1 := by unfold sg; rw [if_neg (by omega)]
          have em := mv_s g nv sv f i
          rw [hs] at em
          have hV2 : VR X4 b2 v (mv g nv sv f (i + 1)).1 (mv g nv sv f (i + 1)).2.1 (mv g nv sv f (i + 1)).2.2 := by rw [em]; exact hV1
          have hM2 := hM.keep hf1 (by omega)
          have hk2 := hk1.r hf1
          refine j_iinc hF dX3_moveTo_56 rfl (Nat.le_of_ble_eq_true rfl) rfl (j_goto hF 12 dX3_moveTo_59 (by decide) ?_)
          refine j_unset 5 ?_
          refine j_widen (by omega) (by omega) (ih (i + 1) _ (by omega) (by omega) hM2 hV2 hk2)
        ·
          have hpar : g (i : Int) % 2 = 1 := Classical.byContradiction fun q => absurd c34 (by unfold en; rw [if_neg q]; omega)
          have een : en (g (i : Int)) = g (i : Int) / 2 := if_pos hpar
          rw [een]
          refine j_aload_n hF dX3_moveTo_37 rfl (j_iload hF dX3_moveTo_38 rfl (j_iconst hF dX3_moveTo_40 (j_callV hF (c_X4_change hV (n' := (mv g nv sv f (i + 1)).1) (c := 1) (by rw [mv_s]) (by omega) (by omega) (by omega)) ms_X4_change mv_X4_change lk_RX3_29 dX3_moveTo_41 hob rfl rfl rfl (by simp [Value.category]) ⟨⟨(Nat.le_of_ble_eq_true rfl), (Nat.le_of_ble_eq_true rfl)⟩, by omega, by omega⟩ (fun v5 X5 hp5 hE5 => ?_))))
          obtain ⟨rfl, hV1, hf1⟩ := hp5
          have hs : sg (g (i : Int)) = 1 := by unfold sg; rw [if_pos (by omega)]
          have em := mv_s g nv sv f i
          rw [hs] at em
          have hV2 : VR X5 b2 v (mv g nv sv f (i + 1)).1 (mv g nv sv f (i + 1)).2.1 (mv g nv sv f (i + 1)).2.2 := by rw [em]; exact hV1
          have hM2 := hM.keep hf1 (by omega)
          have hk2 := hk1.r hf1
          refine j_goto hF 56 dX3_moveTo_44 (by decide) (j_iinc hF dX3_moveTo_56 rfl (Nat.le_of_ble_eq_true rfl) rfl (j_goto hF 12 dX3_moveTo_59 (by decide) ?_))
          refine j_unset 5 ?_
          refine j_widen (by omega) (by omega) (ih (i + 1) _ (by omega) (by omega) hM2 hV2 hk2)
  exact j_widen (Nat.zero_le _) (Nat.zero_le _) (LL (k + 1) 0 X (by omega) (Nat.zero_le _) hM hV0 (F2.refl _ _ X))

