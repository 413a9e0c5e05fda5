/-- what Ways holds: nothing yet, or what was found in this generation -/
def WI (r : Int → Int) (mk : Nat) (gn sr : Int) (fl ff fs : Int → Int) : Prop := (1 ≤ gn ∧ 0 ≤ sr) ∧ (mk = 0 → sr = 0) ∧ (mk = 1 → (∀ j, 0 ≤ j → j < 1600 → (0 ≤ ff j ∧ ff j ≤ gn) ∧ (0 ≤ fs j ∧ fs j ≤ sr)) ∧ sr ≤ 1600 * (gn - 1) + cf (fun j => if ff j = gn then 1 else 0) 1600 ∧ ∀ a c, 0 ≤ a → a < 16 → 0 ≤ c → c ≤ 99 → ff (100 * a + c) = gn → ∀ q, 0 ≤ q → q < 16 → ILs r a c q (fl (16 * (100 * a + c) + q)))
def WR (X : Hp) (b y mk : Nat) (gn : Int) (r : Int → Int) : Prop := ∃ l i s p pc sr fl ff fs fp, YP X b y l i s p (25600 * mk) (1600 * mk) (1600 * mk) (1600 * mk) pc gn sr fl ff fs fp ∧ mk ≤ 1 ∧ WI r mk gn sr fl ff fs
theorem fnd_rg (ff : Int → Int) (gn : Int) : 0 ≤ cf (fun j => if ff j = gn then 1 else 0) 1600 ∧ cf (fun j => if ff j = gn then 1 else 0) 1600 ≤ 1600 := cf_rg (f := fun j => if ff j = gn then (1 : Int) else 0) 1600 (fun j _ _ => by show 0 ≤ (if ff j = gn then (1 : Int) else 0) ∧ (if ff j = gn then (1 : Int) else 0) ≤ 1; split <;> omega)
theorem WI.sr {r : Int → Int} {mk : Nat} {gn sr : Int} {fl ff fs : Int → Int} (h : WI r mk gn sr fl ff fs) (hm : mk = 1) : sr ≤ 1600 * gn := by
  have := (h.2.2 hm).2.1
  have := fnd_rg ff gn
  omega
theorem WI.add {r : Int → Int} {gn sr a c : Int} {fl ff fs fl' fs' : Int → Int} (h : WI r 1 gn sr fl ff fs) (ha : 0 ≤ a ∧ a < 16) (hc : 0 ≤ c ∧ c ≤ 99) (hn : ¬ ff (100 * a + c) = gn) (h1 : ∀ j, j < 16 * (100 * a + c) ∨ 16 * (100 * a + c) + 16 ≤ j → fl' j = fl j) (h2 : ∀ q, 0 ≤ q → q < 16 → ILs r a c q (fl' (16 * (100 * a + c) + q))) (h3 : ∀ j, 0 ≤ j → j < 1600 → 0 ≤ fs' j ∧ fs' j ≤ sr + 1) : WI r 1 gn (sr + 1) fl' (fu ff (100 * a + c) gn) fs' := by
  obtain ⟨g0, g1, g2⟩ := h
  obtain ⟨k1, k2, k3⟩ := g2 rfl
  refine ⟨by omega, fun q => absurd q (by decide), fun _ => ⟨fun j j1 j2 => ⟨?_, h3 j j1 j2⟩, ?_, fun a' c' a1 a2 c1 c2 hf q q1 q2 => ?_⟩⟩
  · by_cases e : j = 100 * a + c
    · rw [e, fu_s]; omega
    · rw [fu_n e]; exact (k1 j j1 j2).1
  · have e1 : (fun j => if fu ff (100 * a + c) gn j = gn then (1 : Int) else 0) = fu (fun j => if ff j = gn then (1 : Int) else 0) (100 * a + c) 1 := by
      funext j
      by_cases e : j = 100 * a + c
      · rw [e, fu_s, fu_s, if_pos rfl]
      · rw [fu_n e, fu_n e]
    rw [e1, cf_fu (by omega), if_pos (by omega), if_neg hn]
    omega
  · by_cases e : 100 * a' + c' = 100 * a + c
    · obtain ⟨rfl, rfl⟩ : a' = a ∧ c' = c := by omega
      exact h2 q q1 q2
    · rw [fu_n e] at hf
      rw [h1 _ (by omega)]
      exact k3 a' c' a1 a2 c1 c2 hf q q1 q2
theorem WI.forget {r r' : Int → Int} {mk : Nat} {gn sr : Int} {fl ff fs : Int → Int} (h : WI r mk gn sr fl ff fs) : WI r' mk (gn + 1) sr fl ff fs := by
  obtain ⟨g0, g1, g2⟩ := h
  refine ⟨by omega, g1, fun hm => ?_⟩
  obtain ⟨k1, k2, k3⟩ := g2 hm
  have f1 := fnd_rg ff gn
  have f2 := fnd_rg ff (gn + 1)
  refine ⟨fun j j1 j2 => ?_, by omega, fun a c a1 a2 c1 c2 hf => ?_⟩
  · have := k1 j j1 j2; omega
  · have := (k1 (100 * a + c) (by omega) (by omega)).1; omega
theorem WI.made {r : Int → Int} {gn : Int} {fl ff fs : Int → Int} (h : WI r 0 gn 0 fl ff fs) : WI r 1 gn 0 (fun _ => 0) (fun _ => 0) (fun _ => 0) := by
  have g0 := h.1
  have f1 := fnd_rg (fun _ => 0) gn
  refine ⟨g0, fun _ => rfl, fun _ => ⟨fun j j1 j2 => ?_, ?_, fun a c a1 a2 c1 c2 hf => ?_⟩⟩
  · show (0 ≤ (0 : Int) ∧ (0 : Int) ≤ gn) ∧ 0 ≤ (0 : Int) ∧ (0 : Int) ≤ 0; omega
  · show 0 ≤ 1600 * (gn - 1) + cf (fun j => if (0 : Int) = gn then 1 else 0) 1600
    have f2 : 0 ≤ cf (fun j => if (0 : Int) = gn then 1 else 0) 1600 := f1.1
    omega
  · exact absurd (show (0 : Int) = gn from hf) (by omega)
theorem WR.keep {X X1 : Hp} {b y mk : Nat} {gn : Int} {r : Int → Int} (h : WR X b y mk gn r) {lo hi : Nat} (hF : FB lo hi X X1) (hd : b + 10 ≤ lo ∨ hi ≤ b) : WR X1 b y mk gn r := by
  obtain ⟨l, i, s, p, pc, sr, fl, ff, fs, fp, hM, hV⟩ := h
  exact ⟨l, i, s, p, pc, sr, fl, ff, fs, fp, hM.keep hF hd, hV⟩
theorem WR.obj {X : Hp} {b y mk : Nat} {gn : Int} {r : Int → Int} (h : WR X b y mk gn r) : ∃ fl, X y = some (b, ob 5 fl) := by
  obtain ⟨l, i, s, p, pc, sr, fl, ff, fs, fp, hM, hV⟩ := h
  exact ⟨_, hM.1⟩
set_option maxRecDepth 100000 in
set_option maxHeartbeats 4000000 in
theorem c_X5_forgets {X : Hp} {b y mk : Nat} {gn : Int} {r : Int → Int} (hW : WR X b y mk gn r) (r' : Int → Int) : Ct yX5_forget cX5_forget 1 none 0 0 [.ref y] X 0 0 (fun rv X' => rv = none ∧ WR X' b y mk (gn + 1) r' ∧ FB b (b + 10) X X') := by
  refine Ct.of (by decide +kernel) [some (.ref y)] rfl (Nat.le_of_ble_eq_true rfl) (fun φ hF hR => ?_)
  obtain ⟨l, i, s, p, pc, sr, fl, ff, fs, fp, hM, hm1, hI⟩ := hW
  have hM := hM.gg
  refine j_aload_n hF dX5_forget_0 rfl (j_dup hF dX5_forget_1 rfl (j_get hF hM.1.1 fl_RX5_24 dX5_forget_2 rfl (j_iconst hF dX5_forget_5 (j_iadd hF dX5_forget_6 (j_put hF hM.1.1 fl_RX5_24 dX5_forget_7 rfl rfl (Nat.le_of_ble_eq_true rfl) (j_nm (fun X1 eX1 => ?_)))))))
  have hM := hM.u_gn eX1
  refine j_vret hF hR dX5_forget_10 (by omega) (by omega) ?_
  exact ⟨rfl, ⟨_, _, _, _, _, _, _, _, _, _, hM.1, hm1, hI.forget⟩, hM.2⟩

set_option maxRecDepth 100000 in
set_option maxHeartbeats 4000000 in
theorem c_X5_leastCounters {X : Hp} {b y mk : Nat} {gn : Int} {r : Int → Int} (hW : WR X b y mk gn r) {b2 : Nat} {g2 d2 s2 e2 k2 : Nat} {nc2 ec2 : Int} {fd2 fs2 fe2 fk2 : Int → Int} (hO : GP X b2 g2 d2 s2 e2 k2 nc2 ec2 fd2 fs2 fe2 fk2) (hdis : b2 + 10 ≤ b ∨ b + 10 ≤ b2) (hE : GE r nc2 ec2 fd2 fs2 fe2 fk2) (hG : GV r) {a t q : Int} (hv : vt r a (t % 100)) (ht : 0 ≤ t ∧ t ≤ 999) (hq : 0 ≤ q ∧ q < 16) (hgn : gn ≤ 100000)  : Ct yX5_leastCounters cX5_leastCounters 5 (some .int) 3 73 [.ref y, .ref g2, vi (1000 * a + t), vi q] X (4 * (1 - mk)) (30400 * (1 - mk)) (fun rv X' => rv = some (vi (lst r a (t % 100) q)) ∧ WR X' b y 1 gn r ∧ FB b (b + 10) X X' ∧ ILs r a (t % 100) q (lst r a (t % 100) q)) := by
  refine Ct.of (by decide +kernel) [some (.ref y), some (.ref g2), some (vi (1000 * a + t)), some (vi q), none] rfl (Nat.le_of_ble_eq_true rfl) (fun φ hF hR => ?_)
  obtain ⟨l, i, s, p, pc, sr, fl, ff, fs, fp, hM, hm1, hI⟩ := hW
  have ha := hv.1.rg hG.1
  have J27 : ∀ (kc ks : Nat) (X1 : Hp) (l i s p : Nat) (sr : Int) (fl ff fs fp : Int → Int), kc ≤ 4 * (1 - mk) → ks ≤ 30400 * (1 - mk) → YPG X X1 b y l i s p 25600 1600 1600 1600 pc gn sr fl ff fs fp → GP X1 b2 g2 d2 s2 e2 k2 nc2 ec2 fd2 fs2 fe2 fk2 → WI r 1 gn sr fl ff fs → Jd φ X1 kc ks 27 [some (.ref y), some (.ref g2), some (vi (1000 * a + t)), some (vi q), some (vi (100 * a + t % 100))] [] := by
    intro kc ks X1 l i s p sr fl ff fs fp hkc hks hM hO hI
    refine j_aload_n hF dX5_leastCounters_27 rfl (j_get hF hM.1.1 fl_RX5_15 dX5_leastCounters_28 rfl (j_iload hF dX5_leastCounters_31 rfl (j_iald hF hM.1.2.2.1 dX5_leastCounters_33 (by omega) (fun ra1 rb1 => ?_))))
    refine j_aload_n hF dX5_leastCounters_34 rfl (j_get hF hM.1.1 fl_RX5_24 dX5_leastCounters_35 rfl (j_icmp_eq hF 59 dX5_leastCounters_38 (by decide) (by have := (hI.2.2 rfl).1 (100 * a + t % 100) (by omega) (by omega); omega) (fun c38 => ?_) (fun c38 => ?_)))
    ·
      have hF1 := (hI.2.2 rfl).2.2 a (t % 100) (by omega) (by omega) (by omega) (by omega) c38 q hq.1 hq.2
      refine j_aload_n hF dX5_leastCounters_59 rfl (j_get hF hM.1.1 fl_RX5_11 dX5_leastCounters_60 rfl (j_iload hF dX5_leastCounters_63 rfl (j_bipush hF dX5_leastCounters_65 (by decide) (j_imul hF dX5_leastCounters_67 (j_iload_n hF dX5_leastCounters_68 rfl ?_)))))
      rw [show (100 * a + t % 100) * 16 = 16 * (100 * a + t % 100) by omega]
      refine j_iadd hF dX5_leastCounters_69 (j_iald hF hM.1.2.1 dX5_leastCounters_70 (by omega) (fun ra2 rb2 => ?_))
      refine j_iret hF hR dX5_leastCounters_71 (by omega) (by omega) ?_
      exact ⟨sv_eq (lst_eq hF1).symm, ⟨_, _, _, _, _, _, _, _, _, _, hM.1, Nat.le_refl _, hI⟩, hM.2, by rw [lst_eq hF1]; exact hF1⟩
    ·
      refine j_aload_n hF dX5_leastCounters_41 rfl (j_aload_n hF dX5_leastCounters_42 rfl (j_iload hF dX5_leastCounters_43 rfl (j_callV hF (c_X5_search hM.1 hO hdis hE hG hv (by have := hI.sr rfl; have := hI.1; omega) (fun j j1 j2 => ((hI.2.2 rfl).1 j j1 j2).2)) ms_X5_search mv_X5_search lk_RX5_39 dX5_leastCounters_45 hM.1.1 rfl rfl rfl (by simp [Value.category]) ⟨⟨(Nat.le_of_ble_eq_true rfl), (Nat.le_of_ble_eq_true rfl)⟩, by omega, by omega⟩ (fun v3 X3 hp3 hE3 => ?_))))
      obtain ⟨rfl, fl1, fs1, fp1, pc1, hM1, k1, k2, k3⟩ := hp3
      have hO := hO.keep hM1.2 (by omega)
      have hM := hM.tr hM1
      have hF1 := k2 q hq.1 hq.2
      have hI := hI.add (by omega) (by omega) c38 k1 k2 k3
      refine j_aload_n hF dX5_leastCounters_48 rfl (j_get hF hM.1.1 fl_RX5_15 dX5_leastCounters_49 rfl (j_iload hF dX5_leastCounters_52 rfl (j_aload_n hF dX5_leastCounters_54 rfl (j_get hF hM.1.1 fl_RX5_24 dX5_leastCounters_55 rfl (j_iast hF hM.1.2.2.1 dX5_leastCounters_58 (by omega) (by have := hI.1; omega) (j_nm (fun X4 eX4 => ?_)))))))
      have hO := hO.keep (FB.up (lo := b) (hi := b + 10) eX4 hM.1.2.2.1 (by omega) (by omega)) (by omega)
      have hM := hM.u_ff eX4
      refine j_aload_n hF dX5_leastCounters_59 rfl (j_get hF hM.1.1 fl_RX5_11 dX5_leastCounters_60 rfl (j_iload hF dX5_leastCounters_63 rfl (j_bipush hF dX5_leastCounters_65 (by decide) (j_imul hF dX5_leastCounters_67 (j_iload_n hF dX5_leastCounters_68 rfl ?_)))))
      rw [show (100 * a + t % 100) * 16 = 16 * (100 * a + t % 100) by omega]
      refine j_iadd hF dX5_leastCounters_69 (j_iald hF hM.1.2.1 dX5_leastCounters_70 (by omega) (fun ra5 rb5 => ?_))
      refine j_iret hF hR dX5_leastCounters_71 (by omega) (by omega) ?_
      exact ⟨sv_eq (lst_eq hF1).symm, ⟨_, _, _, _, _, _, _, _, _, _, hM.1, Nat.le_refl _, hI⟩, hM.2, by rw [lst_eq hF1]; exact hF1⟩
  have hM := hM.gg
  refine j_iload_n hF dX5_leastCounters_0 rfl (j_sipush hF dX5_leastCounters_1 (by decide) (j_idiv hF dX5_leastCounters_4 (by omega) (j_bipush hF dX5_leastCounters_5 (by decide) (j_imul hF dX5_leastCounters_7 (j_iload_n hF dX5_leastCounters_8 rfl ?_)))))
  refine j_callSN hF (c_X7_countersOf (by omega)) ms_X7_countersOf mt_X7_countersOf ln_RX5_32 dX5_leastCounters_9 rfl rfl rfl (by simp [Value.category]) ⟨⟨(Nat.le_of_ble_eq_true rfl), (Nat.le_of_ble_eq_true rfl)⟩, by omega, by omega⟩ (fun v1 X1 hp1 hE1 => ?_)
  obtain ⟨rfl, he1⟩ := hp1; obtain rfl := he1.symm
  refine j_iadd hF dX5_leastCounters_12 ?_
  rw [show (1000 * a + t) / 1000 * 100 + (1000 * a + t) % 100 = 100 * a + t % 100 by omega]
  refine j_istore hF dX5_leastCounters_13 (Nat.le_of_ble_eq_true rfl) rfl (j_aload_n hF dX5_leastCounters_15 rfl (j_get hF hM.1.1 fl_RX5_11 dX5_leastCounters_16 rfl (j_ilen hF (by decide) hM.1.2.1 dX5_leastCounters_19 (fun rl2 => ?_))))
  refine j_if_ne hF 27 dX5_leastCounters_20 (by decide) (by omega) (fun c20 => ?_) (fun c20 => ?_)
  ·
    have hmk : mk = 1 := by omega
    subst hmk
    exact J27 _ _ _ _ _ _ _ _ _ _ _ _ (by omega) (by omega) hM hO hI
  ·
    have hmk : mk = 0 := by omega
    subst hmk
    have hs0 := hI.2.1 rfl
    subst hs0
    refine j_aload_n hF dX5_leastCounters_23 rfl (j_callV hF (c_X5_makeRows hM.1) ms_X5_makeRows mv_X5_makeRows lk_RX5_36 dX5_leastCounters_24 hM.1.1 rfl rfl rfl (by simp [Value.category]) ⟨⟨(Nat.le_of_ble_eq_true rfl), (Nat.le_of_ble_eq_true rfl)⟩, by omega, by omega⟩ (fun v3 X3 hp3 hE3 => ?_))
    obtain ⟨rfl, l1, i1, s1, p1, hM1⟩ := hp3
    have hO := hO.keep hM1.2 (by omega)
    have hM := hM.tr hM1
    exact J27 _ _ _ _ _ _ _ _ _ _ _ _ (by omega) (by omega) hM hO hI.made

