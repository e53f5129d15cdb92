/-! the calls that lay out a year -/

def sp_X9_themeOf (g : hG) : hS := fun as M sz K => ∃ (h : Nat) (A : Nat → Nat → Nat) (ow : Nat → Nat × Nat) (σ : SG) (τ : Nat → Nat → Int) (y p : Int), as = [.ref h, .int (iZ y), .int (iZ p)] ∧ HX g.2.2.2.2 h A ow σ τ M ∧ SV σ ∧ (1600 ≤ y ∧ y ≤ 2399) ∧ (0 ≤ p ∧ p < 366) ∧ (∀ (τ' : Nat → Nat → Int) (M' : hM), HX g.2.2.2.2 h A ow σ τ' M' → ∀ v : Int, thZ σ y p.toNat = v → K (.inl (some (.int (iZ v)))) M' sz)
theorem s_X9_themeOf {l : Launch} {g : hG} (hst : l.stackTraces = false) : Ctr l g mX9_themeOf (sp_X9_themeOf g) := by
  refine Ctr.mk9 hst (by decide) ?_ ?_
  · rintro as M sz K ⟨h, A, ow, σ, τ, y, p, rfl, hH, hV, hy, hp, hK⟩
    exact ⟨by simp [mX9_themeOf], cat_ok rfl⟩
  rintro X as M sz K hX rfl rfl hR ⟨h, A, ow, σ, τ, y, p, rfl, hH, hV, hy, hp, hK⟩
  show G X 0 [.ref h, .int (iZ y), .int (iZ p), U9, U9] [] M sz 0 0
  obtain ⟨n0, n1, n2, n3, ⟨e0, hn0⟩, ⟨e1, hn1⟩, ⟨e2, hn2⟩, ⟨e3, hn3⟩⟩ := hV.nat
  have hob := hH.ob
  have hl0 := hH.l0 e0
  obtain ⟨mo0, ho0⟩ := hl0.o
  have hl1 := hH.l1 e1
  obtain ⟨mo1, ho1⟩ := hl1.o
  have hl2 := hH.l2 e2
  obtain ⟨mo2, ho2⟩ := hl2.o
  have hl3 := hH.l3 e3
  obtain ⟨mo3, ho3⟩ := hl3.o
  have hFA : FA (FF σ) n2 := by
    have := hV.FA
    rw [e2, Int.toNat_natCast] at this
    exact this
  refine g_aload hX dX9_themeOf_0 rfl rfl ?_
  refine g_get hX dX9_themeOf_1 (by first | exact hob | exact ho0 | exact ho1 | exact ho2 | exact ho3 | exact hH.tx (by omega) | exact hH.ux (by omega) | exact hH.fx (by omega) | exact hH.sx (by omega) | exact hH.tr (by omega) | exact hH.ur (by omega) | exact (hH.tw (by omega)).1 | exact (hH.uw (by omega)).1 | exact hH.fr (by omega) | exact hH.pl.1) rfl ?_
  refine g_iload hX dX9_themeOf_4 rfl ?_
  refine g_aload hX dX9_themeOf_5 rfl rfl ?_
  refine g_get hX dX9_themeOf_6 (by first | exact hob | exact ho0 | exact ho1 | exact ho2 | exact ho3 | exact hH.tx (by omega) | exact hH.ux (by omega) | exact hH.fx (by omega) | exact hH.sx (by omega) | exact hH.tr (by omega) | exact hH.ur (by omega) | exact (hH.tw (by omega)).1 | exact (hH.uw (by omega)).1 | exact hH.fr (by omega) | exact hH.pl.1) rfl ?_
  refine g_aload hX dX9_themeOf_9 rfl rfl ?_
  refine g_get hX dX9_themeOf_10 (by first | exact hob | exact ho0 | exact ho1 | exact ho2 | exact ho3 | exact hH.tx (by omega) | exact hH.ux (by omega) | exact hH.fx (by omega) | exact hH.sx (by omega) | exact hH.tr (by omega) | exact hH.ur (by omega) | exact (hH.tw (by omega)).1 | exact (hH.uw (by omega)).1 | exact hH.fr (by omega) | exact hH.pl.1) rfl ?_
  refine g_cVN3 (c2 := 0) (s2 := 0) hX (s_X8_layOut hst) dX9_themeOf_13 (by first | exact hob | exact ho0 | exact ho1 | exact ho2 | exact ho3 | exact hH.tx (by omega) | exact hH.ux (by omega) | exact hH.fx (by omega) | exact hH.sx (by omega) | exact hH.tr (by omega) | exact hH.ur (by omega) | exact (hH.tw (by omega)).1 | exact (hH.uw (by omega)).1 | exact hH.fr (by omega) | exact hH.pl.1) (by first | exact Nat.le_of_ble_eq_true rfl | simp [cat_rf, Value.category]) ⟨rfl, rfl, by decide, by decide⟩ ?_
  refine ⟨_, _, _, _, _, _, _, _, _, _, _, _, _, _, A 18, FF σ, rfl, hH.pl, hH.p4, hl2, (fun i hi => hH.fx (by omega)), hFA, (by omega), hV.n.2.2.2.2, fun M1 hP1 hfr1 => Kc_v ?_⟩
  have hP2 : PLN M1 (A 3 0) (A 4 0) (A 5 0) y (wdayZ y 0) (σ 4 0 0) (layZ σ y) := by
    unfold layZ
    rw [e2, Int.toNat_natCast]
    exact hP1
  have hH := hH.lay hP2 hfr1
  have hob := hH.ob
  have hl0 := hH.l0 e0
  obtain ⟨mo0, ho0⟩ := hl0.o
  have hl1 := hH.l1 e1
  obtain ⟨mo1, ho1⟩ := hl1.o
  have hl2 := hH.l2 e2
  obtain ⟨mo2, ho2⟩ := hl2.o
  have hl3 := hH.l3 e3
  obtain ⟨mo3, ho3⟩ := hl3.o
  refine g_aload hX dX9_themeOf_16 rfl rfl ?_
  refine g_get hX dX9_themeOf_17 (by first | exact hob | exact ho0 | exact ho1 | exact ho2 | exact ho3 | exact hH.tx (by omega) | exact hH.ux (by omega) | exact hH.fx (by omega) | exact hH.sx (by omega) | exact hH.tr (by omega) | exact hH.ur (by omega) | exact (hH.tw (by omega)).1 | exact (hH.uw (by omega)).1 | exact hH.fr (by omega) | exact hH.pl.1) rfl ?_
  refine g_iload hX dX9_themeOf_20 rfl ?_
  refine g_cVN1 (c2 := 0) (s2 := 0) hX (s_X8_keptOn hst) dX9_themeOf_21 (by first | exact hob | exact ho0 | exact ho1 | exact ho2 | exact ho3 | exact hH.tx (by omega) | exact hH.ux (by omega) | exact hH.fx (by omega) | exact hH.sx (by omega) | exact hH.tr (by omega) | exact hH.ur (by omega) | exact (hH.tw (by omega)).1 | exact (hH.uw (by omega)).1 | exact hH.fr (by omega) | exact hH.pl.1) (by first | exact Nat.le_of_ble_eq_true rfl | simp [cat_rf, Value.category]) ⟨rfl, rfl, by decide, by decide⟩ ?_
  refine ⟨_, _, _, _, _, _, _, _, rfl, hP2, wday_r y 0, by omega, hV.LR y, Kc_i ?_⟩
  rw [kept_eq (by omega) _ (by omega)]
  rw [show keptS y (layZ σ y) p.toNat = keptZ σ y p.toNat from rfl]
  have hkr := kept_r hV y p.toNat
  refine g_istore hX dX9_themeOf_24 ?_
  dsimp only [List.set]
  refine g_iload hX dX9_themeOf_25 rfl ?_
  refine g_const hX dX9_themeOf_26 ?_
  refine z_icmp_ne hX dX9_themeOf_28 (by first | assumption | (constructor <;> omega)) (by first | assumption | (constructor <;> omega)) (fun c28 => ?_) (fun c28 => ?_)
  · refine g_iload hX dX9_themeOf_42 rfl ?_
    refine z_if_lt hX dX9_themeOf_43 (by first | assumption | (constructor <;> omega)) (fun c43 => ?_) (fun c43 => ?_)
    · refine g_const hX dX9_themeOf_61 ?_
      refine g_istore hX dX9_themeOf_62 ?_
      dsimp only [List.set]
      refine g_iload hX dX9_themeOf_64 rfl ?_
      refine z_if_eq hX dX9_themeOf_66 (by first | assumption | (constructor <;> omega)) (fun c66 => ?_) (fun c66 => ?_)
      · refine g_const hX dX9_themeOf_92 ?_
        refine g_iret hX hR dX9_themeOf_94 rfl rfl (by decide) (by decide) ?_
        exact hK _ _ hH _ (by unfold thZ; rw [if_pos (by omega)])
      · refine g_aload hX dX9_themeOf_69 rfl rfl ?_
        refine g_get hX dX9_themeOf_70 (by first | exact hob | exact ho0 | exact ho1 | exact ho2 | exact ho3 | exact hH.tx (by omega) | exact hH.ux (by omega) | exact hH.fx (by omega) | exact hH.sx (by omega) | exact hH.tr (by omega) | exact hH.ur (by omega) | exact (hH.tw (by omega)).1 | exact (hH.uw (by omega)).1 | exact hH.fr (by omega) | exact hH.pl.1) rfl ?_
        refine g_iload hX dX9_themeOf_73 rfl ?_
        refine g_cV1 (c2 := 0) (s2 := 0) hX (s_Jx4a65c_get_915e3 hst) dX9_themeOf_74 (by first | exact hob | exact ho0 | exact ho1 | exact ho2 | exact ho3 | exact hH.tx (by omega) | exact hH.ux (by omega) | exact hH.fx (by omega) | exact hH.sx (by omega) | exact hH.tr (by omega) | exact hH.ur (by omega) | exact (hH.tw (by omega)).1 | exact (hH.uw (by omega)).1 | exact hH.fr (by omega) | exact hH.pl.1) (by first | exact Nat.le_of_ble_eq_true rfl | simp [cat_rf, Value.category]) ⟨rfl, rfl, by decide, by decide⟩ ?_
        refine ⟨_, _, _, _, _, _, rfl, hl2, by omega, Kc_i ?_⟩
        refine g_cast hX dX9_themeOf_77 (by first | exact hob | exact ho0 | exact ho1 | exact ho2 | exact ho3 | exact hH.tx (by omega) | exact hH.ux (by omega) | exact hH.fx (by omega) | exact hH.sx (by omega) | exact hH.tr (by omega) | exact hH.ur (by omega) | exact (hH.tw (by omega)).1 | exact (hH.uw (by omega)).1 | exact hH.fr (by omega) | exact hH.pl.1) ?_
        refine g_get hX dX9_themeOf_80 (by first | exact hob | exact ho0 | exact ho1 | exact ho2 | exact ho3 | exact hH.tx (by omega) | exact hH.ux (by omega) | exact hH.fx (by omega) | exact hH.sx (by omega) | exact hH.tr (by omega) | exact hH.ur (by omega) | exact (hH.tw (by omega)).1 | exact (hH.uw (by omega)).1 | exact hH.fr (by omega) | exact hH.pl.1) rfl ?_
        refine g_iload hX dX9_themeOf_83 rfl ?_
        refine g_const hX dX9_themeOf_84 ?_
        refine z_irem hX dX9_themeOf_85 (by first | assumption | (constructor <;> omega)) (by first | assumption | (constructor <;> omega)) (by omega) (by omega) ?_
        refine g_cVN1 (c2 := 0) (s2 := 0) hX (s_X2_themeIn hst) dX9_themeOf_86 (by first | exact hob | exact ho0 | exact ho1 | exact ho2 | exact ho3 | exact hH.tx (by omega) | exact hH.ux (by omega) | exact hH.fx (by omega) | exact hH.sx (by omega) | exact hH.tr (by omega) | exact hH.ur (by omega) | exact (hH.tw (by omega)).1 | exact (hH.uw (by omega)).1 | exact hH.fr (by omega) | exact hH.pl.1) (by first | exact Nat.le_of_ble_eq_true rfl | simp [cat_rf, Value.category]) ⟨rfl, rfl, by decide, by decide⟩ ?_
        refine ⟨_, _, _, _, rfl, hH.fr (by omega), hH.fa (by omega), (by constructor <;> omega), Kc_i ?_⟩
        rw [if_pos (by omega)]
        refine g_goto hX dX9_themeOf_89 ?_
        refine g_iret hX hR dX9_themeOf_94 rfl rfl (by decide) (by decide) ?_
        exfalso; omega
    · refine g_iload hX dX9_themeOf_46 rfl ?_
      refine g_aload hX dX9_themeOf_47 rfl rfl ?_
      refine g_get hX dX9_themeOf_48 (by first | exact hob | exact ho0 | exact ho1 | exact ho2 | exact ho3 | exact hH.tx (by omega) | exact hH.ux (by omega) | exact hH.fx (by omega) | exact hH.sx (by omega) | exact hH.tr (by omega) | exact hH.ur (by omega) | exact (hH.tw (by omega)).1 | exact (hH.uw (by omega)).1 | exact hH.fr (by omega) | exact hH.pl.1) rfl ?_
      refine g_cV0 (c2 := 0) (s2 := 0) hX (s_Jx4a65c_size_8abf5 hst) dX9_themeOf_51 (by first | exact hob | exact ho0 | exact ho1 | exact ho2 | exact ho3 | exact hH.tx (by omega) | exact hH.ux (by omega) | exact hH.fx (by omega) | exact hH.sx (by omega) | exact hH.tr (by omega) | exact hH.ur (by omega) | exact (hH.tw (by omega)).1 | exact (hH.uw (by omega)).1 | exact hH.fr (by omega) | exact hH.pl.1) (by first | exact Nat.le_of_ble_eq_true rfl | simp [cat_rf, Value.category]) ⟨rfl, rfl, by decide, by decide⟩ ?_
      refine ⟨_, _, _, _, _, rfl, hl2, Kc_i ?_⟩
      refine z_icmp_ge hX dX9_themeOf_54 (by first | assumption | (constructor <;> omega)) (by first | assumption | (constructor <;> omega)) (fun c54 => ?_) (fun c54 => ?_)
      · refine g_const hX dX9_themeOf_61 ?_
        refine g_istore hX dX9_themeOf_62 ?_
        dsimp only [List.set]
        refine g_iload hX dX9_themeOf_64 rfl ?_
        refine z_if_eq hX dX9_themeOf_66 (by first | assumption | (constructor <;> omega)) (fun c66 => ?_) (fun c66 => ?_)
        · refine g_const hX dX9_themeOf_92 ?_
          refine g_iret hX hR dX9_themeOf_94 rfl rfl (by decide) (by decide) ?_
          exact hK _ _ hH _ (by unfold thZ; rw [if_pos (by omega)])
        · refine g_aload hX dX9_themeOf_69 rfl rfl ?_
          refine g_get hX dX9_themeOf_70 (by first | exact hob | exact ho0 | exact ho1 | exact ho2 | exact ho3 | exact hH.tx (by omega) | exact hH.ux (by omega) | exact hH.fx (by omega) | exact hH.sx (by omega) | exact hH.tr (by omega) | exact hH.ur (by omega) | exact (hH.tw (by omega)).1 | exact (hH.uw (by omega)).1 | exact hH.fr (by omega) | exact hH.pl.1) rfl ?_
          refine g_iload hX dX9_themeOf_73 rfl ?_
          refine g_cV1 (c2 := 0) (s2 := 0) hX (s_Jx4a65c_get_915e3 hst) dX9_themeOf_74 (by first | exact hob | exact ho0 | exact ho1 | exact ho2 | exact ho3 | exact hH.tx (by omega) | exact hH.ux (by omega) | exact hH.fx (by omega) | exact hH.sx (by omega) | exact hH.tr (by omega) | exact hH.ur (by omega) | exact (hH.tw (by omega)).1 | exact (hH.uw (by omega)).1 | exact hH.fr (by omega) | exact hH.pl.1) (by first | exact Nat.le_of_ble_eq_true rfl | simp [cat_rf, Value.category]) ⟨rfl, rfl, by decide, by decide⟩ ?_
          refine ⟨_, _, _, _, _, _, rfl, hl2, by omega, Kc_i ?_⟩
          refine g_cast hX dX9_themeOf_77 (by first | exact hob | exact ho0 | exact ho1 | exact ho2 | exact ho3 | exact hH.tx (by omega) | exact hH.ux (by omega) | exact hH.fx (by omega) | exact hH.sx (by omega) | exact hH.tr (by omega) | exact hH.ur (by omega) | exact (hH.tw (by omega)).1 | exact (hH.uw (by omega)).1 | exact hH.fr (by omega) | exact hH.pl.1) ?_
          refine g_get hX dX9_themeOf_80 (by first | exact hob | exact ho0 | exact ho1 | exact ho2 | exact ho3 | exact hH.tx (by omega) | exact hH.ux (by omega) | exact hH.fx (by omega) | exact hH.sx (by omega) | exact hH.tr (by omega) | exact hH.ur (by omega) | exact (hH.tw (by omega)).1 | exact (hH.uw (by omega)).1 | exact hH.fr (by omega) | exact hH.pl.1) rfl ?_
          refine g_iload hX dX9_themeOf_83 rfl ?_
          refine g_const hX dX9_themeOf_84 ?_
          refine z_irem hX dX9_themeOf_85 (by first | assumption | (constructor <;> omega)) (by first | assumption | (constructor <;> omega)) (by omega) (by omega) ?_
          refine g_cVN1 (c2 := 0) (s2 := 0) hX (s_X2_themeIn hst) dX9_themeOf_86 (by first | exact hob | exact ho0 | exact ho1 | exact ho2 | exact ho3 | exact hH.tx (by omega) | exact hH.ux (by omega) | exact hH.fx (by omega) | exact hH.sx (by omega) | exact hH.tr (by omega) | exact hH.ur (by omega) | exact (hH.tw (by omega)).1 | exact (hH.uw (by omega)).1 | exact hH.fr (by omega) | exact hH.pl.1) (by first | exact Nat.le_of_ble_eq_true rfl | simp [cat_rf, Value.category]) ⟨rfl, rfl, by decide, by decide⟩ ?_
          refine ⟨_, _, _, _, rfl, hH.fr (by omega), hH.fa (by omega), (by constructor <;> omega), Kc_i ?_⟩
          rw [if_pos (by omega)]
          refine g_goto hX dX9_themeOf_89 ?_
          refine g_iret hX hR dX9_themeOf_94 rfl rfl (by decide) (by decide) ?_
          exfalso; omega
      · refine g_const hX dX9_themeOf_57 ?_
        refine g_goto hX dX9_themeOf_58 ?_
        refine g_istore hX dX9_themeOf_62 ?_
        dsimp only [List.set]
        refine g_iload hX dX9_themeOf_64 rfl ?_
        refine z_if_eq hX dX9_themeOf_66 (by first | assumption | (constructor <;> omega)) (fun c66 => ?_) (fun c66 => ?_)
        · refine g_const hX dX9_themeOf_92 ?_
          refine g_iret hX hR dX9_themeOf_94 rfl rfl (by decide) (by decide) ?_
          exfalso; omega
        · refine g_aload hX dX9_themeOf_69 rfl rfl ?_
          refine g_get hX dX9_themeOf_70 (by first | exact hob | exact ho0 | exact ho1 | exact ho2 | exact ho3 | exact hH.tx (by omega) | exact hH.ux (by omega) | exact hH.fx (by omega) | exact hH.sx (by omega) | exact hH.tr (by omega) | exact hH.ur (by omega) | exact (hH.tw (by omega)).1 | exact (hH.uw (by omega)).1 | exact hH.fr (by omega) | exact hH.pl.1) rfl ?_
          refine g_iload hX dX9_themeOf_73 rfl ?_
          refine g_cV1 (c2 := 0) (s2 := 0) hX (s_Jx4a65c_get_915e3 hst) dX9_themeOf_74 (by first | exact hob | exact ho0 | exact ho1 | exact ho2 | exact ho3 | exact hH.tx (by omega) | exact hH.ux (by omega) | exact hH.fx (by omega) | exact hH.sx (by omega) | exact hH.tr (by omega) | exact hH.ur (by omega) | exact (hH.tw (by omega)).1 | exact (hH.uw (by omega)).1 | exact hH.fr (by omega) | exact hH.pl.1) (by first | exact Nat.le_of_ble_eq_true rfl | simp [cat_rf, Value.category]) ⟨rfl, rfl, by decide, by decide⟩ ?_
          refine ⟨_, _, _, _, _, _, rfl, hl2, by omega, Kc_i ?_⟩
          refine g_cast hX dX9_themeOf_77 (by first | exact hob | exact ho0 | exact ho1 | exact ho2 | exact ho3 | exact hH.tx (by omega) | exact hH.ux (by omega) | exact hH.fx (by omega) | exact hH.sx (by omega) | exact hH.tr (by omega) | exact hH.ur (by omega) | exact (hH.tw (by omega)).1 | exact (hH.uw (by omega)).1 | exact hH.fr (by omega) | exact hH.pl.1) ?_
          refine g_get hX dX9_themeOf_80 (by first | exact hob | exact ho0 | exact ho1 | exact ho2 | exact ho3 | exact hH.tx (by omega) | exact hH.ux (by omega) | exact hH.fx (by omega) | exact hH.sx (by omega) | exact hH.tr (by omega) | exact hH.ur (by omega) | exact (hH.tw (by omega)).1 | exact (hH.uw (by omega)).1 | exact hH.fr (by omega) | exact hH.pl.1) rfl ?_
          refine g_iload hX dX9_themeOf_83 rfl ?_
          refine g_const hX dX9_themeOf_84 ?_
          refine z_irem hX dX9_themeOf_85 (by first | assumption | (constructor <;> omega)) (by first | assumption | (constructor <;> omega)) (by omega) (by omega) ?_
          refine g_cVN1 (c2 := 0) (s2 := 0) hX (s_X2_themeIn hst) dX9_themeOf_86 (by first | exact hob | exact ho0 | exact ho1 | exact ho2 | exact ho3 | exact hH.tx (by omega) | exact hH.ux (by omega) | exact hH.fx (by omega) | exact hH.sx (by omega) | exact hH.tr (by omega) | exact hH.ur (by omega) | exact (hH.tw (by omega)).1 | exact (hH.uw (by omega)).1 | exact hH.fr (by omega) | exact hH.pl.1) (by first | exact Nat.le_of_ble_eq_true rfl | simp [cat_rf, Value.category]) ⟨rfl, rfl, by decide, by decide⟩ ?_
          refine ⟨_, _, _, _, rfl, hH.fr (by omega), hH.fa (by omega), (by constructor <;> omega), Kc_i ?_⟩
          rw [if_pos (by omega)]
          refine g_goto hX dX9_themeOf_89 ?_
          refine g_iret hX hR dX9_themeOf_94 rfl rfl (by decide) (by decide) ?_
          exact hK _ _ hH _ (by unfold thZ; rw [if_neg (by omega), if_neg (by omega)])
  · refine g_aload hX dX9_themeOf_31 rfl rfl ?_
    refine g_get hX dX9_themeOf_32 (by first | exact hob | exact ho0 | exact ho1 | exact ho2 | exact ho3 | exact hH.tx (by omega) | exact hH.ux (by omega) | exact hH.fx (by omega) | exact hH.sx (by omega) | exact hH.tr (by omega) | exact hH.ur (by omega) | exact (hH.tw (by omega)).1 | exact (hH.uw (by omega)).1 | exact hH.fr (by omega) | exact hH.pl.1) rfl ?_
    refine g_iload hX dX9_themeOf_35 rfl ?_
    refine g_const hX dX9_themeOf_36 ?_
    refine z_irem hX dX9_themeOf_37 (by first | assumption | (constructor <;> omega)) (by first | assumption | (constructor <;> omega)) (by omega) (by omega) ?_
    refine g_cVN1 (c2 := 0) (s2 := 0) hX (s_X2_themeIn hst) dX9_themeOf_38 (by first | exact hob | exact ho0 | exact ho1 | exact ho2 | exact ho3 | exact hH.tx (by omega) | exact hH.ux (by omega) | exact hH.fx (by omega) | exact hH.sx (by omega) | exact hH.tr (by omega) | exact hH.ur (by omega) | exact (hH.tw (by omega)).1 | exact (hH.uw (by omega)).1 | exact hH.fr (by omega) | exact hH.pl.1) (by first | exact Nat.le_of_ble_eq_true rfl | simp [cat_rf, Value.category]) ⟨rfl, rfl, by decide, by decide⟩ ?_
    refine ⟨_, _, _, _, rfl, hH.fr (by omega), hH.fa (by omega), (by constructor <;> omega), Kc_i ?_⟩
    rw [if_pos (by omega)]
    refine g_iret hX hR dX9_themeOf_41 rfl rfl (by decide) (by decide) ?_
    exact hK _ _ hH _ (by unfold thZ; rw [if_neg (by omega), if_pos (by omega)])

def sp_X9_kept (g : hG) : hS := fun as M sz K => ∃ (h : Nat) (A : Nat → Nat → Nat) (ow : Nat → Nat × Nat) (σ : SG) (τ : Nat → Nat → Int) (y : Int) (m : Int) (d : Int), as = [.ref h, .int (iZ y), .int (iZ m), .int (iZ d)] ∧ HX g.2.2.2.2 h A ow σ τ M ∧ SV σ ∧ inR y ∧ inR m ∧ inR d ∧ KO g.2.2.2.2 h (E3 tIAE tIAE tIAE) (oc_kept σ y m d) K
theorem s_X9_kept {l : Launch} {g : hG} (hst : l.stackTraces = false) : Ctr l g mX9_kept (sp_X9_kept g) := by
  refine Ctr.mk9 hst (by decide) ?_ ?_
  · rintro as M sz K ⟨h, A, ow, σ, τ, y, m, d, rfl, hH, hV, hry, hrm, hrd, hK⟩
    exact ⟨by simp [mX9_kept], cat_ok rfl⟩
  rintro X as M sz K hX rfl rfl hR ⟨h, A, ow, σ, τ, y, m, d, rfl, hH, hV, hry, hrm, hrd, hK⟩
  show G X 0 [.ref h, .int (iZ y), .int (iZ m), .int (iZ d)] [] M sz 0 0
  obtain ⟨n0, n1, n2, n3, ⟨e0, hn0⟩, ⟨e1, hn1⟩, ⟨e2, hn2⟩, ⟨e3, hn3⟩⟩ := hV.nat
  have hob := hH.ob
  have hl0 := hH.l0 e0
  obtain ⟨mo0, ho0⟩ := hl0.o
  have hl1 := hH.l1 e1
  obtain ⟨mo1, ho1⟩ := hl1.o
  have hl2 := hH.l2 e2
  obtain ⟨mo2, ho2⟩ := hl2.o
  have hl3 := hH.l3 e3
  obtain ⟨mo3, ho3⟩ := hl3.o
  have hFA : FA (FF σ) n2 := by
    have := hV.FA
    rw [e2, Int.toNat_natCast] at this
    exact this
  refine g_iload hX dX9_kept_0 rfl ?_
  refine g_iload hX dX9_kept_1 rfl ?_
  refine g_iload hX dX9_kept_2 rfl ?_
  refine g_cS3 (c2 := 3) (s2 := 18) hX (s_X9_requireDay hst) dX9_kept_3 (by first | exact Nat.le_of_ble_eq_true rfl | simp [cat_rf, Value.category]) ⟨rfl, rfl, by decide, by decide⟩ ?_
  refine ⟨_, _, _, rfl, (by first | assumption | (constructor <;> omega)), (by first | assumption | (constructor <;> omega)), (by first | assumption | (constructor <;> omega)), fun qd => Kc_v ?_, fun h9 s9 hs9 => Kc_x (gx_out hX hR rfl (by decide) (by decide) (KX hK (c := 1) (if_pos h9) (by decide) rfl hH hV))⟩
  obtain ⟨qy, qm, qd1, qd2⟩ := id qd
  have hml := mlen_r y m
  have hyl := ylen_r y
  have hcd := cal_d qm ⟨qd1, qd2⟩
  refine g_aload hX dX9_kept_6 rfl rfl ?_
  refine g_get hX dX9_kept_7 (by first | exact hob | exact ho0 | exact ho1 | exact ho2 | exact ho3 | exact hH.tx (by omega) | exact hH.ux (by omega) | exact hH.fx (by omega) | exact hH.sx (by omega) | exact hH.tr (by omega) | exact hH.ur (by omega) | exact (hH.tw (by omega)).1 | exact (hH.uw (by omega)).1 | exact hH.fr (by omega) | exact hH.pl.1) rfl ?_
  refine g_iload hX dX9_kept_10 rfl ?_
  refine g_aload hX dX9_kept_11 rfl rfl ?_
  refine g_get hX dX9_kept_12 (by first | exact hob | exact ho0 | exact ho1 | exact ho2 | exact ho3 | exact hH.tx (by omega) | exact hH.ux (by omega) | exact hH.fx (by omega) | exact hH.sx (by omega) | exact hH.tr (by omega) | exact hH.ur (by omega) | exact (hH.tw (by omega)).1 | exact (hH.uw (by omega)).1 | exact hH.fr (by omega) | exact hH.pl.1) rfl ?_
  refine g_aload hX dX9_kept_15 rfl rfl ?_
  refine g_get hX dX9_kept_16 (by first | exact hob | exact ho0 | exact ho1 | exact ho2 | exact ho3 | exact hH.tx (by omega) | exact hH.ux (by omega) | exact hH.fx (by omega) | exact hH.sx (by omega) | exact hH.tr (by omega) | exact hH.ur (by omega) | exact (hH.tw (by omega)).1 | exact (hH.uw (by omega)).1 | exact hH.fr (by omega) | exact hH.pl.1) rfl ?_
  refine g_cVN3 (c2 := 3) (s2 := 18) hX (s_X8_layOut hst) dX9_kept_19 (by first | exact hob | exact ho0 | exact ho1 | exact ho2 | exact ho3 | exact hH.tx (by omega) | exact hH.ux (by omega) | exact hH.fx (by omega) | exact hH.sx (by omega) | exact hH.tr (by omega) | exact hH.ur (by omega) | exact (hH.tw (by omega)).1 | exact (hH.uw (by omega)).1 | exact hH.fr (by omega) | exact hH.pl.1) (by first | exact Nat.le_of_ble_eq_true rfl | simp [cat_rf, Value.category]) ⟨rfl, rfl, by decide, by decide⟩ ?_
  refine ⟨_, _, _, _, _, _, _, _, _, _, _, _, _, _, A 18, FF σ, rfl, hH.pl, hH.p4, hl2, (fun i hi => hH.fx (by omega)), hFA, (by omega), hV.n.2.2.2.2, fun M1 hP1 hfr1 => Kc_v ?_⟩
  have hP2 : PLN M1 (A 3 0) (A 4 0) (A 5 0) y (wdayZ y 0) (σ 4 0 0) (layZ σ y) := by
    unfold layZ
    rw [e2, Int.toNat_natCast]
    exact hP1
  have hH := hH.lay hP2 hfr1
  have hob := hH.ob
  have hl0 := hH.l0 e0
  obtain ⟨mo0, ho0⟩ := hl0.o
  have hl1 := hH.l1 e1
  obtain ⟨mo1, ho1⟩ := hl1.o
  have hl2 := hH.l2 e2
  obtain ⟨mo2, ho2⟩ := hl2.o
  have hl3 := hH.l3 e3
  obtain ⟨mo3, ho3⟩ := hl3.o
  refine g_aload hX dX9_kept_22 rfl rfl ?_
  refine g_get hX dX9_kept_23 (by first | exact hob | exact ho0 | exact ho1 | exact ho2 | exact ho3 | exact hH.tx (by omega) | exact hH.ux (by omega) | exact hH.fx (by omega) | exact hH.sx (by omega) | exact hH.tr (by omega) | exact hH.ur (by omega) | exact (hH.tw (by omega)).1 | exact (hH.uw (by omega)).1 | exact hH.fr (by omega) | exact hH.pl.1) rfl ?_
  refine g_iload hX dX9_kept_26 rfl ?_
  refine g_iload hX dX9_kept_27 rfl ?_
  refine g_iload hX dX9_kept_28 rfl ?_
  refine g_cSN3 (c2 := 3) (s2 := 18) hX (s_X0_dayOfYear hst) dX9_kept_29 (by first | exact Nat.le_of_ble_eq_true rfl | simp [cat_rf, Value.category]) ⟨rfl, rfl, by decide, by decide⟩ ?_
  refine ⟨_, _, _, rfl, by omega, by omega, by omega, Kc_i ?_⟩
  refine g_cVN1 (c2 := 3) (s2 := 18) hX (s_X8_keptOn hst) dX9_kept_32 (by first | exact hob | exact ho0 | exact ho1 | exact ho2 | exact ho3 | exact hH.tx (by omega) | exact hH.ux (by omega) | exact hH.fx (by omega) | exact hH.sx (by omega) | exact hH.tr (by omega) | exact hH.ur (by omega) | exact (hH.tw (by omega)).1 | exact (hH.uw (by omega)).1 | exact hH.fr (by omega) | exact hH.pl.1) (by first | exact Nat.le_of_ble_eq_true rfl | simp [cat_rf, Value.category]) ⟨rfl, rfl, by decide, by decide⟩ ?_
  refine ⟨_, _, _, _, _, _, _, _, rfl, hP2, wday_r y 0, by omega, hV.LR y, Kc_i ?_⟩
  rw [kept_eq (by omega) _ (by omega)]
  rw [show keptS y (layZ σ y) (placeZ y m d).toNat = keptZ σ y (placeZ y m d).toNat from rfl]
  have hkr := kept_r hV y (placeZ y m d).toNat
  refine g_iret hX hR dX9_kept_35 rfl rfl (by decide) (by decide) ?_
  exact KV hK (if_neg (fun q => q qd)) hH hV

def sp_X9_theme (g : hG) : hS := fun as M sz K => ∃ (h : Nat) (A : Nat → Nat → Nat) (ow : Nat → Nat × Nat) (σ : SG) (τ : Nat → Nat → Int) (y : Int) (m : Int) (d : Int), as = [.ref h, .int (iZ y), .int (iZ m), .int (iZ d)] ∧ HX g.2.2.2.2 h A ow σ τ M ∧ SV σ ∧ inR y ∧ inR m ∧ inR d ∧ KO g.2.2.2.2 h (E3 tIAE tIAE tIAE) (oc_theme σ y m d) K
theorem s_X9_theme {l : Launch} {g : hG} (hst : l.stackTraces = false) : Ctr l g mX9_theme (sp_X9_theme g) := by
  refine Ctr.mk9 hst (by decide) ?_ ?_
  · rintro as M sz K ⟨h, A, ow, σ, τ, y, m, d, rfl, hH, hV, hry, hrm, hrd, hK⟩
    exact ⟨by simp [mX9_theme], cat_ok rfl⟩
  rintro X as M sz K hX rfl rfl hR ⟨h, A, ow, σ, τ, y, m, d, rfl, hH, hV, hry, hrm, hrd, hK⟩
  show G X 0 [.ref h, .int (iZ y), .int (iZ m), .int (iZ d)] [] M sz 0 0
  obtain ⟨n0, n1, n2, n3, ⟨e0, hn0⟩, ⟨e1, hn1⟩, ⟨e2, hn2⟩, ⟨e3, hn3⟩⟩ := hV.nat
  have hob := hH.ob
  have hl0 := hH.l0 e0
  obtain ⟨mo0, ho0⟩ := hl0.o
  have hl1 := hH.l1 e1
  obtain ⟨mo1, ho1⟩ := hl1.o
  have hl2 := hH.l2 e2
  obtain ⟨mo2, ho2⟩ := hl2.o
  have hl3 := hH.l3 e3
  obtain ⟨mo3, ho3⟩ := hl3.o
  refine g_iload hX dX9_theme_0 rfl ?_
  refine g_iload hX dX9_theme_1 rfl ?_
  refine g_iload hX dX9_theme_2 rfl ?_
  refine g_cS3 (c2 := 3) (s2 := 18) hX (s_X9_requireDay hst) dX9_theme_3 (by first | exact Nat.le_of_ble_eq_true rfl | simp [cat_rf, Value.category]) ⟨rfl, rfl, by decide, by decide⟩ ?_
  refine ⟨_, _, _, rfl, (by first | assumption | (constructor <;> omega)), (by first | assumption | (constructor <;> omega)), (by first | assumption | (constructor <;> omega)), fun qd => Kc_v ?_, fun h9 s9 hs9 => Kc_x (gx_out hX hR rfl (by decide) (by decide) (KX hK (c := 1) (if_pos h9) (by decide) rfl hH hV))⟩
  obtain ⟨qy, qm, qd1, qd2⟩ := id qd
  have hml := mlen_r y m
  have hyl := ylen_r y
  have hcd := cal_d qm ⟨qd1, qd2⟩
  refine g_aload hX dX9_theme_6 rfl rfl ?_
  refine g_iload hX dX9_theme_7 rfl ?_
  refine g_iload hX dX9_theme_8 rfl ?_
  refine g_iload hX dX9_theme_9 rfl ?_
  refine g_iload hX dX9_theme_10 rfl ?_
  refine g_cSN3 (c2 := 3) (s2 := 18) hX (s_X0_dayOfYear hst) dX9_theme_11 (by first | exact Nat.le_of_ble_eq_true rfl | simp [cat_rf, Value.category]) ⟨rfl, rfl, by decide, by decide⟩ ?_
  refine ⟨_, _, _, rfl, by omega, by omega, by omega, Kc_i ?_⟩
  refine g_cV2 (c2 := 3) (s2 := 18) hX (s_X9_themeOf hst) dX9_theme_14 (by first | exact hob | exact ho0 | exact ho1 | exact ho2 | exact ho3 | exact hH.tx (by omega) | exact hH.ux (by omega) | exact hH.fx (by omega) | exact hH.sx (by omega) | exact hH.tr (by omega) | exact hH.ur (by omega) | exact (hH.tw (by omega)).1 | exact (hH.uw (by omega)).1 | exact hH.fr (by omega) | exact hH.pl.1) (by first | exact Nat.le_of_ble_eq_true rfl | simp [cat_rf, Value.category]) ⟨rfl, rfl, by decide, by decide⟩ ?_
  refine ⟨_, _, _, _, _, _, _, rfl, hH, hV, by omega, by omega, fun τ1 M1 hH v hv => Kc_i ?_⟩
  refine g_iret hX hR dX9_theme_17 rfl rfl (by decide) (by decide) ?_
  exact KV hK ((if_neg (fun q => q qd)).trans (by rw [hv])) hH hV

def sp_X9_when (g : hG) : hS := fun as M sz K => ∃ (h : Nat) (A : Nat → Nat → Nat) (ow : Nat → Nat × Nat) (σ : SG) (τ : Nat → Nat → Int) (a : Int) (y : Int), as = [.ref h, .int (iZ a), .int (iZ y)] ∧ HX g.2.2.2.2 h A ow σ τ M ∧ SV σ ∧ inR a ∧ inR y ∧ KO g.2.2.2.2 h (E3 tIOB tIAE tIAE) (oc_when σ a y) K
theorem s_X9_when {l : Launch} {g : hG} (hst : l.stackTraces = false) : Ctr l g mX9_when (sp_X9_when g) := by
  refine Ctr.mk9 hst (by decide) ?_ ?_
  · rintro as M sz K ⟨h, A, ow, σ, τ, a, y, rfl, hH, hV, hra, hry, hK⟩
    exact ⟨by simp [mX9_when], cat_ok rfl⟩
  rintro X as M sz K hX rfl rfl hR ⟨h, A, ow, σ, τ, a, y, rfl, hH, hV, hra, hry, hK⟩
  show G X 0 [.ref h, .int (iZ a), .int (iZ y), U9] [] M sz 0 0
  obtain ⟨n0, n1, n2, n3, ⟨e0, hn0⟩, ⟨e1, hn1⟩, ⟨e2, hn2⟩, ⟨e3, hn3⟩⟩ := hV.nat
  have hob := hH.ob
  have hl0 := hH.l0 e0
  obtain ⟨mo0, ho0⟩ := hl0.o
  have hl1 := hH.l1 e1
  obtain ⟨mo1, ho1⟩ := hl1.o
  have hl2 := hH.l2 e2
  obtain ⟨mo2, ho2⟩ := hl2.o
  have hl3 := hH.l3 e3
  obtain ⟨mo3, ho3⟩ := hl3.o
  have hFA : FA (FF σ) n2 := by
    have := hV.FA
    rw [e2, Int.toNat_natCast] at this
    exact this
  refine g_iload hX dX9_when_0 rfl ?_
  refine g_aload hX dX9_when_1 rfl rfl ?_
  refine g_get hX dX9_when_2 (by first | exact hob | exact ho0 | exact ho1 | exact ho2 | exact ho3 | exact hH.tx (by omega) | exact hH.ux (by omega) | exact hH.fx (by omega) | exact hH.sx (by omega) | exact hH.tr (by omega) | exact hH.ur (by omega) | exact (hH.tw (by omega)).1 | exact (hH.uw (by omega)).1 | exact hH.fr (by omega) | exact hH.pl.1) rfl ?_
  refine g_cV0 (c2 := 0) (s2 := 0) hX (s_Jx4a65c_size_8abf5 hst) dX9_when_5 (by first | exact hob | exact ho0 | exact ho1 | exact ho2 | exact ho3 | exact hH.tx (by omega) | exact hH.ux (by omega) | exact hH.fx (by omega) | exact hH.sx (by omega) | exact hH.tr (by omega) | exact hH.ur (by omega) | exact (hH.tw (by omega)).1 | exact (hH.uw (by omega)).1 | exact hH.fr (by omega) | exact hH.pl.1) (by first | exact Nat.le_of_ble_eq_true rfl | simp [cat_rf, Value.category]) ⟨rfl, rfl, by decide, by decide⟩ ?_
  refine ⟨_, _, _, _, _, rfl, hl2, Kc_i ?_⟩
  refine g_cS2 (c2 := 1) (s2 := 6) hX (s_X9_requireIndex hst) dX9_when_8 (by first | exact Nat.le_of_ble_eq_true rfl | simp [cat_rf, Value.category]) ⟨rfl, rfl, by decide, by decide⟩ ?_
  refine ⟨_, _, rfl, (by assumption), by omega, fun qa => Kc_v ?_, fun h9 s9 hs9 => Kc_x (gx_out hX hR rfl (by decide) (by decide) (KX hK (c := 1) (if_pos (fun q => h9 ⟨q.1, by omega⟩)) (by decide) rfl hH hV))⟩
  obtain ⟨f, rfl⟩ : ∃ f : Nat, a = (f : Int) := ⟨a.toNat, by omega⟩
  refine g_iload hX dX9_when_11 rfl ?_
  refine g_const hX dX9_when_12 ?_
  refine g_const hX dX9_when_15 ?_
  refine g_cS3 (c2 := 2) (s2 := 12) hX (s_X9_requireRange hst) dX9_when_18 (by first | exact Nat.le_of_ble_eq_true rfl | simp [cat_rf, Value.category]) ⟨rfl, rfl, by decide, by decide⟩ ?_
  refine ⟨_, _, _, rfl, (by first | assumption | (constructor <;> omega)), (by first | assumption | (constructor <;> omega)), (by first | assumption | (constructor <;> omega)), fun qy => Kc_v ?_, fun h9 s9 hs9 => Kc_x (gx_out hX hR rfl (by decide) (by decide) (KX hK (c := 2) ((if_neg (fun q => q ⟨by omega, by omega⟩)).trans (if_pos h9)) (by decide) rfl hH hV))⟩
  refine g_aload hX dX9_when_21 rfl rfl ?_
  refine g_get hX dX9_when_22 (by first | exact hob | exact ho0 | exact ho1 | exact ho2 | exact ho3 | exact hH.tx (by omega) | exact hH.ux (by omega) | exact hH.fx (by omega) | exact hH.sx (by omega) | exact hH.tr (by omega) | exact hH.ur (by omega) | exact (hH.tw (by omega)).1 | exact (hH.uw (by omega)).1 | exact hH.fr (by omega) | exact hH.pl.1) rfl ?_
  refine g_iload hX dX9_when_25 rfl ?_
  refine g_aload hX dX9_when_26 rfl rfl ?_
  refine g_get hX dX9_when_27 (by first | exact hob | exact ho0 | exact ho1 | exact ho2 | exact ho3 | exact hH.tx (by omega) | exact hH.ux (by omega) | exact hH.fx (by omega) | exact hH.sx (by omega) | exact hH.tr (by omega) | exact hH.ur (by omega) | exact (hH.tw (by omega)).1 | exact (hH.uw (by omega)).1 | exact hH.fr (by omega) | exact hH.pl.1) rfl ?_
  refine g_aload hX dX9_when_30 rfl rfl ?_
  refine g_get hX dX9_when_31 (by first | exact hob | exact ho0 | exact ho1 | exact ho2 | exact ho3 | exact hH.tx (by omega) | exact hH.ux (by omega) | exact hH.fx (by omega) | exact hH.sx (by omega) | exact hH.tr (by omega) | exact hH.ur (by omega) | exact (hH.tw (by omega)).1 | exact (hH.uw (by omega)).1 | exact hH.fr (by omega) | exact hH.pl.1) rfl ?_
  refine g_cVN3 (c2 := 2) (s2 := 12) hX (s_X8_layOut hst) dX9_when_34 (by first | exact hob | exact ho0 | exact ho1 | exact ho2 | exact ho3 | exact hH.tx (by omega) | exact hH.ux (by omega) | exact hH.fx (by omega) | exact hH.sx (by omega) | exact hH.tr (by omega) | exact hH.ur (by omega) | exact (hH.tw (by omega)).1 | exact (hH.uw (by omega)).1 | exact hH.fr (by omega) | exact hH.pl.1) (by first | exact Nat.le_of_ble_eq_true rfl | simp [cat_rf, Value.category]) ⟨rfl, rfl, by decide, by decide⟩ ?_
  refine ⟨_, _, _, _, _, _, _, _, _, _, _, _, _, _, A 18, FF σ, rfl, hH.pl, hH.p4, hl2, (fun i hi => hH.fx (by omega)), hFA, (by omega), hV.n.2.2.2.2, fun M1 hP1 hfr1 => Kc_v ?_⟩
  have hP2 : PLN M1 (A 3 0) (A 4 0) (A 5 0) y (wdayZ y 0) (σ 4 0 0) (layZ σ y) := by
    unfold layZ
    rw [e2, Int.toNat_natCast]
    exact hP1
  have hH := hH.lay hP2 hfr1
  have hob := hH.ob
  have hl0 := hH.l0 e0
  obtain ⟨mo0, ho0⟩ := hl0.o
  have hl1 := hH.l1 e1
  obtain ⟨mo1, ho1⟩ := hl1.o
  have hl2 := hH.l2 e2
  obtain ⟨mo2, ho2⟩ := hl2.o
  have hl3 := hH.l3 e3
  obtain ⟨mo3, ho3⟩ := hl3.o
  refine g_aload hX dX9_when_37 rfl rfl ?_
  refine g_get hX dX9_when_38 (by first | exact hob | exact ho0 | exact ho1 | exact ho2 | exact ho3 | exact hH.tx (by omega) | exact hH.ux (by omega) | exact hH.fx (by omega) | exact hH.sx (by omega) | exact hH.tr (by omega) | exact hH.ur (by omega) | exact (hH.tw (by omega)).1 | exact (hH.uw (by omega)).1 | exact hH.fr (by omega) | exact hH.pl.1) rfl ?_
  refine g_iload hX dX9_when_41 rfl ?_
  refine g_cVN1 (c2 := 2) (s2 := 12) hX (s_X8_dayOfFeast hst) dX9_when_42 (by first | exact hob | exact ho0 | exact ho1 | exact ho2 | exact ho3 | exact hH.tx (by omega) | exact hH.ux (by omega) | exact hH.fx (by omega) | exact hH.sx (by omega) | exact hH.tr (by omega) | exact hH.ur (by omega) | exact (hH.tw (by omega)).1 | exact (hH.uw (by omega)).1 | exact hH.fr (by omega) | exact hH.pl.1) (by first | exact Nat.le_of_ble_eq_true rfl | simp [cat_rf, Value.category]) ⟨rfl, rfl, by decide, by decide⟩ ?_
  refine ⟨_, _, _, _, _, _, _, _, rfl, hP2, by omega, Kc_i ?_⟩
  simp only [Int.toNat_natCast]
  have hyl := ylen_r y
  have hdy := hV.day y f
  refine g_istore hX dX9_when_45 ?_
  dsimp only [List.set]
  refine g_iload hX dX9_when_46 rfl ?_
  refine g_const hX dX9_when_47 ?_
  refine z_icmp_ne hX dX9_when_49 (by first | assumption | (constructor <;> omega)) (by first | assumption | (constructor <;> omega)) (fun c49 => ?_) (fun c49 => ?_)
  · refine g_iload hX dX9_when_57 rfl ?_
    refine g_iload hX dX9_when_58 rfl ?_
    refine g_cSN2 (c2 := 2) (s2 := 12) hX (s_X0_monthAndDay hst) dX9_when_59 (by first | exact Nat.le_of_ble_eq_true rfl | simp [cat_rf, Value.category]) ⟨rfl, rfl, by decide, by decide⟩ ?_
    refine ⟨_, _, rfl, by omega, by omega, Kc_i ?_⟩
    refine g_iret hX hR dX9_when_62 rfl rfl (by decide) (by decide) ?_
    exact kint (KV hK ((if_neg (fun q => q ⟨by omega, by omega⟩)).trans (if_neg (fun q => q qy))) hH hV) (show whenZ σ y f = _ from if_neg c49)
  · refine g_const hX dX9_when_52 ?_
    refine g_goto hX dX9_when_54 ?_
    refine g_iret hX hR dX9_when_62 rfl rfl (by decide) (by decide) ?_
    exact kint (KV hK ((if_neg (fun q => q ⟨by omega, by omega⟩)).trans (if_neg (fun q => q qy))) hH hV) (show whenZ σ y f = _ from if_pos c49)

def sp_X9_whenAnew (g : hG) : hS := fun as M sz K => ∃ (h : Nat) (A : Nat → Nat → Nat) (ow : Nat → Nat × Nat) (σ : SG) (τ : Nat → Nat → Int) (a : Int) (y : Int), as = [.ref h, .int (iZ a), .int (iZ y)] ∧ HX g.2.2.2.2 h A ow σ τ M ∧ SV σ ∧ inR a ∧ inR y ∧ KO g.2.2.2.2 h (E3 tIOB tIAE tIAE) (oc_when σ a y) K
theorem s_X9_whenAnew {l : Launch} {g : hG} (hst : l.stackTraces = false) : Ctr l g mX9_whenAnew (sp_X9_whenAnew g) := by
  refine Ctr.mk9 hst (by decide) ?_ ?_
  · rintro as M sz K ⟨h, A, ow, σ, τ, a, y, rfl, hH, hV, hra, hry, hK⟩
    exact ⟨by simp [mX9_whenAnew], cat_ok rfl⟩
  rintro X as M sz K hX rfl rfl hR ⟨h, A, ow, σ, τ, a, y, rfl, hH, hV, hra, hry, hK⟩
  show G X 0 [.ref h, .int (iZ a), .int (iZ y), U9, U9, U9] [] M sz 0 0
  obtain ⟨n0, n1, n2, n3, ⟨e0, hn0⟩, ⟨e1, hn1⟩, ⟨e2, hn2⟩, ⟨e3, hn3⟩⟩ := hV.nat
  have hob := hH.ob
  have hl0 := hH.l0 e0
  obtain ⟨mo0, ho0⟩ := hl0.o
  have hl1 := hH.l1 e1
  obtain ⟨mo1, ho1⟩ := hl1.o
  have hl2 := hH.l2 e2
  obtain ⟨mo2, ho2⟩ := hl2.o
  have hl3 := hH.l3 e3
  obtain ⟨mo3, ho3⟩ := hl3.o
  have hFA : FA (FF σ) n2 := by
    have := hV.FA
    rw [e2, Int.toNat_natCast] at this
    exact this
  refine g_iload hX dX9_whenAnew_0 rfl ?_
  refine g_aload hX dX9_whenAnew_1 rfl rfl ?_
  refine g_get hX dX9_whenAnew_2 (by first | exact hob | exact ho0 | exact ho1 | exact ho2 | exact ho3 | exact hH.tx (by omega) | exact hH.ux (by omega) | exact hH.fx (by omega) | exact hH.sx (by omega) | exact hH.tr (by omega) | exact hH.ur (by omega) | exact (hH.tw (by omega)).1 | exact (hH.uw (by omega)).1 | exact hH.fr (by omega) | exact hH.pl.1) rfl ?_
  refine g_cV0 (c2 := 0) (s2 := 0) hX (s_Jx4a65c_size_8abf5 hst) dX9_whenAnew_5 (by first | exact hob | exact ho0 | exact ho1 | exact ho2 | exact ho3 | exact hH.tx (by omega) | exact hH.ux (by omega) | exact hH.fx (by omega) | exact hH.sx (by omega) | exact hH.tr (by omega) | exact hH.ur (by omega) | exact (hH.tw (by omega)).1 | exact (hH.uw (by omega)).1 | exact hH.fr (by omega) | exact hH.pl.1) (by first | exact Nat.le_of_ble_eq_true rfl | simp [cat_rf, Value.category]) ⟨rfl, rfl, by decide, by decide⟩ ?_
  refine ⟨_, _, _, _, _, rfl, hl2, Kc_i ?_⟩
  refine g_cS2 (c2 := 1) (s2 := 6) hX (s_X9_requireIndex hst) dX9_whenAnew_8 (by first | exact Nat.le_of_ble_eq_true rfl | simp [cat_rf, Value.category]) ⟨rfl, rfl, by decide, by decide⟩ ?_
  refine ⟨_, _, rfl, (by assumption), by omega, fun qa => Kc_v ?_, fun h9 s9 hs9 => Kc_x (gx_out hX hR rfl (by decide) (by decide) (KX hK (c := 1) (if_pos (fun q => h9 ⟨q.1, by omega⟩)) (by decide) rfl hH hV))⟩
  obtain ⟨f, rfl⟩ : ∃ f : Nat, a = (f : Int) := ⟨a.toNat, by omega⟩
  refine g_iload hX dX9_whenAnew_11 rfl ?_
  refine g_const hX dX9_whenAnew_12 ?_
  refine g_const hX dX9_whenAnew_15 ?_
  refine g_cS3 (c2 := 2) (s2 := 12) hX (s_X9_requireRange hst) dX9_whenAnew_18 (by first | exact Nat.le_of_ble_eq_true rfl | simp [cat_rf, Value.category]) ⟨rfl, rfl, by decide, by decide⟩ ?_
  refine ⟨_, _, _, rfl, (by first | assumption | (constructor <;> omega)), (by first | assumption | (constructor <;> omega)), (by first | assumption | (constructor <;> omega)), fun qy => Kc_v ?_, fun h9 s9 hs9 => Kc_x (gx_out hX hR rfl (by decide) (by decide) (KX hK (c := 2) ((if_neg (fun q => q ⟨by omega, by omega⟩)).trans (if_pos h9)) (by decide) rfl hH hV))⟩
  refine g_aload hX dX9_whenAnew_21 rfl rfl ?_
  refine g_get hX dX9_whenAnew_22 (by first | exact hob | exact ho0 | exact ho1 | exact ho2 | exact ho3 | exact hH.tx (by omega) | exact hH.ux (by omega) | exact hH.fx (by omega) | exact hH.sx (by omega) | exact hH.tr (by omega) | exact hH.ur (by omega) | exact (hH.tw (by omega)).1 | exact (hH.uw (by omega)).1 | exact hH.fr (by omega) | exact hH.pl.1) rfl ?_
  refine g_iload hX dX9_whenAnew_25 rfl ?_
  refine g_aload hX dX9_whenAnew_26 rfl rfl ?_
  refine g_get hX dX9_whenAnew_27 (by first | exact hob | exact ho0 | exact ho1 | exact ho2 | exact ho3 | exact hH.tx (by omega) | exact hH.ux (by omega) | exact hH.fx (by omega) | exact hH.sx (by omega) | exact hH.tr (by omega) | exact hH.ur (by omega) | exact (hH.tw (by omega)).1 | exact (hH.uw (by omega)).1 | exact hH.fr (by omega) | exact hH.pl.1) rfl ?_
  refine g_aload hX dX9_whenAnew_30 rfl rfl ?_
  refine g_get hX dX9_whenAnew_31 (by first | exact hob | exact ho0 | exact ho1 | exact ho2 | exact ho3 | exact hH.tx (by omega) | exact hH.ux (by omega) | exact hH.fx (by omega) | exact hH.sx (by omega) | exact hH.tr (by omega) | exact hH.ur (by omega) | exact (hH.tw (by omega)).1 | exact (hH.uw (by omega)).1 | exact hH.fr (by omega) | exact hH.pl.1) rfl ?_
  refine g_cVN3 (c2 := 2) (s2 := 12) hX (s_X8_layOut hst) dX9_whenAnew_34 (by first | exact hob | exact ho0 | exact ho1 | exact ho2 | exact ho3 | exact hH.tx (by omega) | exact hH.ux (by omega) | exact hH.fx (by omega) | exact hH.sx (by omega) | exact hH.tr (by omega) | exact hH.ur (by omega) | exact (hH.tw (by omega)).1 | exact (hH.uw (by omega)).1 | exact hH.fr (by omega) | exact hH.pl.1) (by first | exact Nat.le_of_ble_eq_true rfl | simp [cat_rf, Value.category]) ⟨rfl, rfl, by decide, by decide⟩ ?_
  refine ⟨_, _, _, _, _, _, _, _, _, _, _, _, _, _, A 18, FF σ, rfl, hH.pl, hH.p4, hl2, (fun i hi => hH.fx (by omega)), hFA, (by omega), hV.n.2.2.2.2, fun M1 hP1 hfr1 => Kc_v ?_⟩
  have hP2 : PLN M1 (A 3 0) (A 4 0) (A 5 0) y (wdayZ y 0) (σ 4 0 0) (layZ σ y) := by
    unfold layZ
    rw [e2, Int.toNat_natCast]
    exact hP1
  have hH := hH.lay hP2 hfr1
  have hob := hH.ob
  have hl0 := hH.l0 e0
  obtain ⟨mo0, ho0⟩ := hl0.o
  have hl1 := hH.l1 e1
  obtain ⟨mo1, ho1⟩ := hl1.o
  have hl2 := hH.l2 e2
  obtain ⟨mo2, ho2⟩ := hl2.o
  have hl3 := hH.l3 e3
  obtain ⟨mo3, ho3⟩ := hl3.o
  obtain ⟨P, hPe⟩ : ∃ P : Int, (layZ σ y).2 f = P := ⟨_, rfl⟩
  have hdy := hV.day y f
  rw [hPe] at hdy
  have hyl := ylen_r y
  have inner : ∀ m : Int, (1 ≤ m ∧ m ≤ 12) → (∀ v : Value, G X 98 [.ref h, .int (iZ (f : Int)), .int (iZ y), .int (iZ (wfZ y P (m + 1) 1)), .int (iZ m), v] [] M1 sz 2 12) → ∀ (k9 : Nat) (d : Int), 1 ≤ d → d + k9 = mlenZ y m + 1 → G X 53 [.ref h, .int (iZ (f : Int)), .int (iZ y), .int (iZ (wfZ y P m d)), .int (iZ m), .int (iZ d)] [] M1 sz 2 12 := by
    intro m hm hend k9
    have hml := mlen_r y m
    induction k9 with
    | zero =>
      intro d hd hk
      refine g_iload hX dX9_whenAnew_53 rfl ?_
      refine g_iload hX dX9_whenAnew_55 rfl ?_
      refine g_iload hX dX9_whenAnew_56 rfl ?_
      refine g_cSN2 (c2 := 2) (s2 := 12) hX (s_X0_monthLength hst) dX9_whenAnew_58 (by first | exact Nat.le_of_ble_eq_true rfl | simp [cat_rf, Value.category]) ⟨rfl, rfl, by decide, by decide⟩ ?_
      refine ⟨_, _, rfl, by omega, (by constructor <;> omega), Kc_i ?_⟩
      refine z_icmp_gt hX dX9_whenAnew_61 (by first | assumption | (constructor <;> omega)) (by first | assumption | (constructor <;> omega)) (fun c61 => ?_) (fun c61 => ?_)
      · have h9 := hend (.int (iZ d))
        rw [← wf_m hdy (show mlenZ y m < d by omega)] at h9
        exact h9
      · exfalso; omega
    | succ k9 ih =>
      intro d hd hk
      refine g_iload hX dX9_whenAnew_53 rfl ?_
      refine g_iload hX dX9_whenAnew_55 rfl ?_
      refine g_iload hX dX9_whenAnew_56 rfl ?_
      refine g_cSN2 (c2 := 2) (s2 := 12) hX (s_X0_monthLength hst) dX9_whenAnew_58 (by first | exact Nat.le_of_ble_eq_true rfl | simp [cat_rf, Value.category]) ⟨rfl, rfl, by decide, by decide⟩ ?_
      refine ⟨_, _, rfl, by omega, (by constructor <;> omega), Kc_i ?_⟩
      refine z_icmp_gt hX dX9_whenAnew_61 (by first | assumption | (constructor <;> omega)) (by first | assumption | (constructor <;> omega)) (fun c61 => ?_) (fun c61 => ?_)
      · exfalso; omega
      · refine g_aload hX dX9_whenAnew_64 rfl rfl ?_
        refine g_get hX dX9_whenAnew_65 (by first | exact hob | exact ho0 | exact ho1 | exact ho2 | exact ho3 | exact hH.tx (by omega) | exact hH.ux (by omega) | exact hH.fx (by omega) | exact hH.sx (by omega) | exact hH.tr (by omega) | exact hH.ur (by omega) | exact (hH.tw (by omega)).1 | exact (hH.uw (by omega)).1 | exact hH.fr (by omega) | exact hH.pl.1) rfl ?_
        refine g_iload hX dX9_whenAnew_68 rfl ?_
        refine g_iload hX dX9_whenAnew_69 rfl ?_
        refine g_iload hX dX9_whenAnew_71 rfl ?_
        refine g_cSN3 (c2 := 2) (s2 := 12) hX (s_X0_dayOfYear hst) dX9_whenAnew_73 (by first | exact Nat.le_of_ble_eq_true rfl | simp [cat_rf, Value.category]) ⟨rfl, rfl, by decide, by decide⟩ ?_
        refine ⟨_, _, _, rfl, by omega, by omega, by omega, Kc_i ?_⟩
        have hcd := cal_d hm ⟨hd, c61⟩
        refine g_cVN1 (c2 := 2) (s2 := 12) hX (s_X8_keptOn hst) dX9_whenAnew_76 (by first | exact hob | exact ho0 | exact ho1 | exact ho2 | exact ho3 | exact hH.tx (by omega) | exact hH.ux (by omega) | exact hH.fx (by omega) | exact hH.sx (by omega) | exact hH.tr (by omega) | exact hH.ur (by omega) | exact (hH.tw (by omega)).1 | exact (hH.uw (by omega)).1 | exact hH.fr (by omega) | exact hH.pl.1) (by first | exact Nat.le_of_ble_eq_true rfl | simp [cat_rf, Value.category]) ⟨rfl, rfl, by decide, by decide⟩ ?_
        refine ⟨_, _, _, _, _, _, _, _, rfl, hP2, wday_r y 0, by omega, hV.LR y, Kc_i ?_⟩
        rw [kept_eq (by omega) _ (by omega)]
        have hkr := kept_r hV y (placeZ y m d).toNat
        unfold keptZ at hkr
        have hwr := wf_r (m := m) (d := d) hdy
        have hiff : keptS y (layZ σ y) (placeZ y m d).toNat = (f : Int) ↔ P = placeZ y m d := by
          rw [kept_f, hV.DU y (placeZ y m d).toNat f, hPe, show (((placeZ y m d).toNat : Nat) : Int) = placeZ y m d by omega]
        refine g_iload hX dX9_whenAnew_79 rfl ?_
        refine z_icmp_ne hX dX9_whenAnew_80 (by first | assumption | (constructor <;> omega)) (by first | assumption | (constructor <;> omega)) (fun c80 => ?_) (fun c80 => ?_)
        · refine z_iinc hX dX9_whenAnew_92 rfl ?_
          dsimp only [List.set]
          refine g_goto hX dX9_whenAnew_95 ?_
          have h9 := ih (d + 1) (by omega) (by omega)
          rw [wf_n hdy hm ⟨hd, c61⟩ (fun z => c80 (hiff.mpr z))] at h9
          exact h9
        · refine g_const hX dX9_whenAnew_83 ?_
          refine g_iload hX dX9_whenAnew_85 rfl ?_
          refine z_imul hX dX9_whenAnew_87 ?_
          refine g_iload hX dX9_whenAnew_88 rfl ?_
          refine z_iadd hX dX9_whenAnew_90 ?_
          refine g_istore hX dX9_whenAnew_91 ?_
          dsimp only [List.set]
          refine z_iinc hX dX9_whenAnew_92 rfl ?_
          dsimp only [List.set]
          refine g_goto hX dX9_whenAnew_95 ?_
          have h9 := ih (d + 1) (by omega) (by omega)
          rw [wf_y hm ⟨hd, c61⟩ (hiff.mp c80)] at h9
          exact h9
  have outer : ∀ (k9 : Nat) (m : Int) (v : Value), 1 ≤ m → m + k9 = 13 → G X 43 [.ref h, .int (iZ (f : Int)), .int (iZ y), .int (iZ (wfZ y P m 1)), .int (iZ m), v] [] M1 sz 2 12 := by
    intro k9
    induction k9 with
    | zero =>
      intro m v hm hk
      refine g_iload hX dX9_whenAnew_43 rfl ?_
      refine g_const hX dX9_whenAnew_45 ?_
      refine z_icmp_gt hX dX9_whenAnew_47 (by first | assumption | (constructor <;> omega)) (by first | assumption | (constructor <;> omega)) (fun c47 => ?_) (fun c47 => ?_)
      · refine g_iload hX dX9_whenAnew_104 rfl ?_
        refine g_iret hX hR dX9_whenAnew_105 rfl rfl (by decide) (by decide) ?_
        obtain rfl : m = 13 := by omega
        exact kint (KV hK ((if_neg (fun q => q ⟨by omega, by omega⟩)).trans (if_neg (fun q => q qy))) hH hV) ((show whenZ σ y f = (if P = -100 then -100 else dateZ y P) by unfold whenZ; rw [hPe]).trans (wf_e hdy 1).symm)
      · exfalso; omega
    | succ k9 ih =>
      intro m v hm hk
      have hml := mlen_r y m
      refine g_iload hX dX9_whenAnew_43 rfl ?_
      refine g_const hX dX9_whenAnew_45 ?_
      refine z_icmp_gt hX dX9_whenAnew_47 (by first | assumption | (constructor <;> omega)) (by first | assumption | (constructor <;> omega)) (fun c47 => ?_) (fun c47 => ?_)
      · exfalso; omega
      · refine g_const hX dX9_whenAnew_50 ?_
        refine g_istore hX dX9_whenAnew_51 ?_
        dsimp only [List.set]
        refine inner m (by omega) (fun v => ?_) (mlenZ y m).toNat 1 (by omega) (by omega)
        refine z_iinc hX dX9_whenAnew_98 rfl ?_
        dsimp only [List.set]
        refine g_goto hX dX9_whenAnew_101 ?_
        exact ih (m + 1) v (by omega) (by omega)
  refine g_const hX dX9_whenAnew_37 ?_
  refine g_istore hX dX9_whenAnew_39 ?_
  dsimp only [List.set]
  refine g_const hX dX9_whenAnew_40 ?_
  refine g_istore hX dX9_whenAnew_41 ?_
  dsimp only [List.set]
  have h9 := fun v => outer 12 1 v (by omega) (by omega)
  rw [wf_0 hdy] at h9
  exact h9 _

def sp_X9_why (g : hG) : hS := fun as M sz K => ∃ (h : Nat) (A : Nat → Nat → Nat) (ow : Nat → Nat × Nat) (σ : SG) (τ : Nat → Nat → Int) (a : Int) (y : Int) (m : Int) (d : Int), as = [.ref h, .int (iZ a), .int (iZ y), .int (iZ m), .int (iZ d)] ∧ HX g.2.2.2.2 h A ow σ τ M ∧ SV σ ∧ inR a ∧ inR y ∧ inR m ∧ inR d ∧ KO g.2.2.2.2 h (E3 tIOB tIAE tISE) (oc_why σ a y m d) K
theorem s_X9_why {l : Launch} {g : hG} (hst : l.stackTraces = false) : Ctr l g mX9_why (sp_X9_why g) := by
  refine Ctr.mk9 hst (by decide) ?_ ?_
  · rintro as M sz K ⟨h, A, ow, σ, τ, a, y, m, d, rfl, hH, hV, hra, hry, hrm, hrd, hK⟩
    exact ⟨by simp [mX9_why], cat_ok rfl⟩
  rintro X as M sz K hX rfl rfl hR ⟨h, A, ow, σ, τ, a, y, m, d, rfl, hH, hV, hra, hry, hrm, hrd, hK⟩
  show G X 0 [.ref h, .int (iZ a), .int (iZ y), .int (iZ m), .int (iZ d), U9, U9, U9] [] M sz 0 0
  obtain ⟨n0, n1, n2, n3, ⟨e0, hn0⟩, ⟨e1, hn1⟩, ⟨e2, hn2⟩, ⟨e3, hn3⟩⟩ := hV.nat
  have hob := hH.ob
  have hl0 := hH.l0 e0
  obtain ⟨mo0, ho0⟩ := hl0.o
  have hl1 := hH.l1 e1
  obtain ⟨mo1, ho1⟩ := hl1.o
  have hl2 := hH.l2 e2
  obtain ⟨mo2, ho2⟩ := hl2.o
  have hl3 := hH.l3 e3
  obtain ⟨mo3, ho3⟩ := hl3.o
  refine g_aload hX dX9_why_0 rfl rfl ?_
  refine g_iload hX dX9_why_1 rfl ?_
  refine g_cV1 (c2 := 1) (s2 := 6) hX (s_X9_textAt hst) dX9_why_2 (by first | exact hob | exact ho0 | exact ho1 | exact ho2 | exact ho3 | exact hH.tx (by omega) | exact hH.ux (by omega) | exact hH.fx (by omega) | exact hH.sx (by omega) | exact hH.tr (by omega) | exact hH.ur (by omega) | exact (hH.tw (by omega)).1 | exact (hH.uw (by omega)).1 | exact hH.fr (by omega) | exact hH.pl.1) (by first | exact Nat.le_of_ble_eq_true rfl | simp [cat_rf, Value.category]) ⟨rfl, rfl, by decide, by decide⟩ ?_
  refine ⟨_, _, _, _, _, _, rfl, hH, hV, (by assumption), fun qa => Kc_i ?_, fun h9 s9 hs9 => Kc_x (gx_out hX hR rfl (by decide) (by decide) (KX hK (c := 1) (if_pos h9) (by decide) rfl hH hV))⟩
  obtain ⟨t, rfl⟩ : ∃ t : Nat, a = (t : Int) := ⟨a.toNat, by omega⟩
  simp only [Int.toNat_natCast]
  refine g_astore hX dX9_why_5 rfl ?_
  dsimp only [List.set]
  refine g_iload hX dX9_why_7 rfl ?_
  refine g_iload hX dX9_why_8 rfl ?_
  refine g_iload hX dX9_why_9 rfl ?_
  refine g_cS3 (c2 := 4) (s2 := 24) hX (s_X9_requireDay hst) dX9_why_11 (by first | exact Nat.le_of_ble_eq_true rfl | simp [cat_rf, Value.category]) ⟨rfl, rfl, by decide, by decide⟩ ?_
  refine ⟨_, _, _, rfl, (by first | assumption | (constructor <;> omega)), (by first | assumption | (constructor <;> omega)), (by first | assumption | (constructor <;> omega)), fun qd => Kc_v ?_, fun h9 s9 hs9 => Kc_x (gx_out hX hR rfl (by decide) (by decide) (KX hK (c := 2) ((if_neg (fun q => q qa)).trans (if_pos h9)) (by decide) rfl hH hV))⟩
  obtain ⟨qy, qm, qd1, qd2⟩ := id qd
  have hml := mlen_r y m
  have hyl := ylen_r y
  have hcd := cal_d qm ⟨qd1, qd2⟩
  refine g_iload hX dX9_why_14 rfl ?_
  refine g_iload hX dX9_why_15 rfl ?_
  refine g_iload hX dX9_why_16 rfl ?_
  refine g_cSN3 (c2 := 4) (s2 := 24) hX (s_X0_dayOfYear hst) dX9_why_18 (by first | exact Nat.le_of_ble_eq_true rfl | simp [cat_rf, Value.category]) ⟨rfl, rfl, by decide, by decide⟩ ?_
  refine ⟨_, _, _, rfl, by omega, by omega, by omega, Kc_i ?_⟩
  refine g_istore hX dX9_why_21 ?_
  dsimp only [List.set]
  refine g_aload hX dX9_why_23 rfl rfl ?_
  refine g_iload hX dX9_why_24 rfl ?_
  refine g_iload hX dX9_why_25 rfl ?_
  refine g_cV2 (c2 := 4) (s2 := 24) hX (s_X9_themeOf hst) dX9_why_27 (by first | exact hob | exact ho0 | exact ho1 | exact ho2 | exact ho3 | exact hH.tx (by omega) | exact hH.ux (by omega) | exact hH.fx (by omega) | exact hH.sx (by omega) | exact hH.tr (by omega) | exact hH.ur (by omega) | exact (hH.tw (by omega)).1 | exact (hH.uw (by omega)).1 | exact hH.fr (by omega) | exact hH.pl.1) (by first | exact Nat.le_of_ble_eq_true rfl | simp [cat_rf, Value.category]) ⟨rfl, rfl, by decide, by decide⟩ ?_
  refine ⟨_, _, _, _, _, _, _, rfl, hH, hV, by omega, by omega, fun τ1 M1 hH v hv => Kc_i ?_⟩
  have hob := hH.ob
  have hl0 := hH.l0 e0
  obtain ⟨mo0, ho0⟩ := hl0.o
  have hl1 := hH.l1 e1
  obtain ⟨mo1, ho1⟩ := hl1.o
  have hl2 := hH.l2 e2
  obtain ⟨mo2, ho2⟩ := hl2.o
  have hl3 := hH.l3 e3
  obtain ⟨mo3, ho3⟩ := hl3.o
  have hth := th_r hV y (placeZ y m d).toNat
  refine g_istore hX dX9_why_30 ?_
  dsimp only [List.set]
  refine g_iload hX dX9_why_32 rfl ?_
  refine g_const hX dX9_why_34 ?_
  refine z_icmp_ne hX dX9_why_36 (by first | assumption | (constructor <;> omega)) (by first | assumption | (constructor <;> omega)) (fun c36 => ?_) (fun c36 => ?_)
  · obtain ⟨w9, rfl⟩ : ∃ w9 : Nat, v = (w9 : Int) := ⟨v.toNat, by omega⟩
    refine g_aload hX dX9_why_49 rfl rfl ?_
    refine g_aload hX dX9_why_50 rfl rfl ?_
    refine g_iload hX dX9_why_52 rfl ?_
    refine g_iload hX dX9_why_54 rfl ?_
    refine g_iload hX dX9_why_55 rfl ?_
    refine g_iload hX dX9_why_56 rfl ?_
    refine g_cSN2 (c2 := 4) (s2 := 24) hX (s_X0_dayNumber hst) dX9_why_58 (by first | exact Nat.le_of_ble_eq_true rfl | simp [cat_rf, Value.category]) ⟨rfl, rfl, by decide, by decide⟩ ?_
    refine ⟨_, _, rfl, by omega, by omega, Kc_i ?_⟩
    have hdn := dnum_r (y := y) (p := placeZ y m d) (by omega) (by omega)
    refine g_cV4 (c2 := 4) (s2 := 24) hX (s_X9_reasonAgainst hst) dX9_why_61 (by first | exact hob | exact ho0 | exact ho1 | exact ho2 | exact ho3 | exact hH.tx (by omega) | exact hH.ux (by omega) | exact hH.fx (by omega) | exact hH.sx (by omega) | exact hH.tr (by omega) | exact hH.ur (by omega) | exact (hH.tw (by omega)).1 | exact (hH.uw (by omega)).1 | exact hH.fr (by omega) | exact hH.pl.1) (by first | exact Nat.le_of_ble_eq_true rfl | simp [cat_rf, Value.category]) ⟨rfl, rfl, by decide, by decide⟩ ?_
    refine ⟨_, _, _, _, _, t, w9, _, _, rfl, hH, hV, by omega, by omega, by omega, by omega, Kc_i ?_⟩
    refine g_iret hX hR dX9_why_64 rfl rfl (by decide) (by decide) ?_
    exact KV hK ((((if_neg (fun q => q qa)).trans (if_neg (fun q => q qd))).trans (if_neg (fun q => c36 (hv.symm.trans q)))).trans (by rw [hv]; rfl)) hH hV
  · refine g_throw hX hR dX9_why_39 (by decide) (by decide) (fun sz9 hsz9 => ?_)
    exact KX hK (c := 3) (((if_neg (fun q => q qa)).trans (if_neg (fun q => q qd))).trans (if_pos (hv.trans c36))) (by decide) rfl hH hV
