/-! laying out a year -/
theorem lyJ_s (F : Nat → Nat → Int) (y su r : Int) (j : Nat) (S : LY) : lyJ F y su r (j + 1) S = if F 0 j = r then lyS y su (F 0 j) (F 1 j) (F 2 j) (F 3 j) j (lyJ F y su r j S) else lyJ F y su r j S := rfl
theorem lyR_s (F : Nat → Nat → Int) (y su : Int) (n t : Nat) : lyR F y su n (t + 1) = lyJ F y su (9 - (t : Int)) n (lyR F y su n t) := rfl
theorem iu_r {f : Nat → Int} {k : Nat} {v lo hi : Int} (hf : ∀ q, lo ≤ f q ∧ f q ≤ hi) (hv : lo ≤ v ∧ v ≤ hi) (q : Nat) : lo ≤ iu f k v q ∧ iu f k v q ≤ hi := by
  unfold iu
  split
  · exact hv
  · exact hf q
theorem LR_lyS {y su rk po mo dy : Int} {k : Nat} {S : LY} (h : LR S) (hF : FR rk po mo dy) (hk : k ≤ 20) : LR (lyS y su rk po mo dy k S) := by
  intro q
  have hq := h q
  have ho := own_r (y := y) hF.2.2
  have hyl := ylen_r y
  have hd := day_r y su S.1 (rk := rk) (po := po) (own := ownF y mo dy) (by omega)
  refine ⟨?_, ?_⟩
  · show -100 ≤ (if dayZ y su S.1 rk po (ownF y mo dy) = -100 then S.1 else iu S.1 (dayZ y su S.1 rk po (ownF y mo dy)).toNat (k : Int)) q ∧ (if dayZ y su S.1 rk po (ownF y mo dy) = -100 then S.1 else iu S.1 (dayZ y su S.1 rk po (ownF y mo dy)).toNat (k : Int)) q ≤ 20
    split
    · exact hq.1
    · exact iu_r (fun q => (h q).1) (by omega) q
  · exact iu_r (f := S.2) (fun q => (h q).2) (by rcases hd with h9 | h9 <;> omega) q
def FA (F : Nat → Nat → Int) (n : Nat) : Prop := n ≤ 20 ∧ ∀ i, i < n → FR (F 0 i) (F 1 i) (F 2 i) (F 3 i)
theorem LR_lyJ {F : Nat → Nat → Int} {n : Nat} (hF : FA F n) {y su r : Int} {S : LY} (h : LR S) : ∀ j, j ≤ n → LR (lyJ F y su r j S)
  | 0, _ => h
  | j + 1, hj => by
    rw [lyJ_s]
    split
    · exact LR_lyS (LR_lyJ hF h j (by omega)) (hF.2 j (by omega)) (by have := hF.1; omega)
    · exact LR_lyJ hF h j (by omega)
theorem LR_lyR {F : Nat → Nat → Int} {n : Nat} (hF : FA F n) {y su : Int} : ∀ t, LR (lyR F y su n t)
  | 0 => fun k => ⟨⟨Int.le_refl _, (by decide : (-100 : Int) ≤ 20)⟩, ⟨Int.le_refl _, (by decide : (-100 : Int) ≤ 366)⟩⟩
  | t + 1 => by rw [lyR_s]; exact LR_lyJ hF (LR_lyR hF t) n (Nat.le_refl n)
theorem lyJ_un {F : Nat → Nat → Int} {y su r : Int} {S : LY} {i : Nat} : ∀ j, ¬ (i < j ∧ F 0 i = r) → (lyJ F y su r j S).2 i = S.2 i
  | 0, _ => rfl
  | j + 1, h => by
    rw [lyJ_s]
    split
    · rename_i e
      have hij : i ≠ j := fun e2 => h ⟨by omega, by rw [e2]; exact e⟩
      show iu (lyJ F y su r j S).2 j _ i = _
      rw [iu_n _ _ hij]
      exact lyJ_un j (fun h9 => h ⟨by omega, h9.2⟩)
    · exact lyJ_un j (fun h9 => h ⟨by omega, h9.2⟩)
theorem lyR_un {F : Nat → Nat → Int} {y su : Int} {n i : Nat} : ∀ t : Nat, (n ≤ i ∨ F 0 i ≤ 9 - (t : Int)) → (lyR F y su n t).2 i = -100
  | 0, _ => rfl
  | t + 1, h => by
    rw [lyR_s, lyJ_un n (fun h9 => by omega)]
    exact lyR_un t (by omega)

def sp_X8_put : hS := fun as M sz K => ∃ (p a b r k : Nat) (y su rk po mo dy : Int) (S : LY) (rd : Value), as = [.ref p, .int (iZ (k : Int)), .ref r] ∧ PLN M p a b y (wdayZ y 0) su S ∧ M r = some (.inl (1, [.int (iZ rk), .int (iZ po), .int (iZ mo), .int (iZ dy), rd])) ∧ a ≠ b ∧ (1600 ≤ y ∧ y ≤ 2399) ∧ FR rk po mo dy ∧ k < 20 ∧ (0 ≤ su ∧ su ≤ 9) ∧ LR S ∧ S.2 k = -100 ∧ (∀ M' : hM, PLN M' p a b y (wdayZ y 0) su (lyS y su rk po mo dy k S) → (∀ q, q ≠ a → q ≠ b → M' q = M q) → K (.inl none) M' sz)
theorem s_X8_put {l : Launch} {g : hG} (hst : l.stackTraces = false) : Ctr l g mX8_put sp_X8_put := by
  refine Ctr.mk9 hst (by decide) ?_ ?_
  · rintro as M sz K ⟨p, a, b, r, k, y, su, rk, po, mo, dy, S, rd, rfl, ⟨hm, ha, hb⟩, hr, hab, hy, ⟨hF1, hF2, hF3⟩, hk, hsu, hL, hSk, hK⟩
    exact ⟨by simp [mX8_put], cat_ok rfl⟩
  rintro X as M sz K hX rfl rfl hR ⟨p, a, b, r, k, y, su, rk, po, mo, dy, S, rd, rfl, ⟨hm, ha, hb⟩, hr, hab, hy, ⟨hF1, hF2, hF3⟩, hk, hsu, hL, hSk, hK⟩
  show G X 0 [.ref p, .int (iZ (k : Int)), .ref r, U9, U9, U9] [] M sz 0 0
  have hne9 : ∀ q1 q2 : Nat, ∀ x1 x2 : hC, M q1 = some x1 → M q2 = some x2 → x1 ≠ x2 → q1 ≠ q2 := fun q1 q2 x1 x2 h1 h2 h3 e => h3 (by rw [e, h2] at h1; exact (Option.some.inj h1).symm)
  have hap : a ≠ p := hne9 _ _ _ _ ha hm (by simp)
  have hbp : b ≠ p := hne9 _ _ _ _ hb hm (by simp)
  have hw := wday_r y 0
  have ho := own_r (y := y) (mo := mo) (dy := dy) hF3
  have hyl := ylen_r y
  have hls : lstZ y po (ownF y mo dy) ≤ ylenZ y - 1 := by unfold lstZ; split <;> omega
  have hls2 : -1000 ≤ lstZ y po (ownF y mo dy) := by unfold lstZ; split <;> (try split) <;> omega
  have loop : ∀ (k9 d : Nat), (lstZ y po (ownF y mo dy) + 1 - (d : Int)).toNat = k9 → (ownF y mo dy ≤ d ∧ ownF y mo dy ≠ -100 ∧ (d : Int) ≤ 400 ∧ 0 ≤ ownF y mo dy) → fstZ (opnZ y su S.1 rk) d k9 = dayZ y su S.1 rk po (ownF y mo dy) → G X 61 [.ref p, .int (iZ (k : Int)), .ref r, .int (iZ (ownF y mo dy)), .int (iZ (lstZ y po (ownF y mo dy))), .int (iZ (d : Int))] [] M sz 0 0 := by
    intro k9
    induction k9 with
    | zero =>
      intro d hd1 hd2 hinv
      refine g_iload hX dX8_put_61 rfl ?_
      refine g_iload hX dX8_put_63 rfl ?_
      refine z_icmp_gt hX dX8_put_65 (by constructor <;> omega) (by constructor <;> omega) (fun c65 => ?_) (fun c65 => ?_)
      · refine g_vret hX hR dX8_put_104 rfl (by decide) (by decide) ?_
        have hd0 : dayZ y su S.1 rk po (ownF y mo dy) = -100 := by rw [← hinv]; rfl
        have hSS : lyS y su rk po mo dy k S = S := by
          unfold lyS
          rw [hd0, if_pos rfl]
          refine Prod.ext rfl ?_
          funext q
          show iu S.2 k (-100) q = S.2 q
          unfold iu
          split
          · rename_i e; rw [e]; exact hSk.symm
          · rfl
        exact hK M (by rw [hSS]; exact ⟨hm, ha, hb⟩) (fun _ _ _ => rfl)
      · exfalso; omega
    | succ k9 ih =>
      intro d hd1 hd2 hinv
      refine g_iload hX dX8_put_61 rfl ?_
      refine g_iload hX dX8_put_63 rfl ?_
      refine z_icmp_gt hX dX8_put_65 (by constructor <;> omega) (by constructor <;> omega) (fun c65 => ?_) (fun c65 => ?_)
      · refine g_vret hX hR dX8_put_104 rfl (by decide) (by decide) ?_
        exfalso; omega
      · refine g_aload hX dX8_put_68 rfl rfl ?_
        refine g_iload hX dX8_put_69 rfl ?_
        refine g_aload hX dX8_put_71 rfl rfl ?_
        refine g_get hX dX8_put_72 (by assumption) rfl ?_
        refine g_cV2 (c2 := 0) (s2 := 0) hX (s_X8_isOpen hst) dX8_put_75 (by assumption) (by first | exact Nat.le_of_ble_eq_true rfl | simp [cat_rf, Value.category]) ⟨rfl, rfl, by decide, by decide⟩ ?_
        refine ⟨_, _, _, _, _, _, _, _, _, rfl, ⟨hm, ha, hb⟩, hw, by omega, by omega, hsu, hL, Kc_i ?_⟩
        refine z_ifb_eq hX dX8_put_78 (fun c78 => ?_) (fun c78 => ?_)
        · refine z_iinc hX dX8_put_98 rfl ?_
          dsimp only [List.set]
          refine g_goto hX dX8_put_101 ?_
          exact ih (d + 1) (by omega) (by omega) (by rw [← hinv]; exact (fst_n _ _ _ (fun h9 => c78 ⟨h9.1, by rw [wday_of y d hy]; exact h9.2⟩)).symm)
        · refine g_aload hX dX8_put_81 rfl rfl ?_
          refine g_get hX dX8_put_82 (by assumption) rfl ?_
          refine g_iload hX dX8_put_85 rfl ?_
          refine g_iload hX dX8_put_87 rfl ?_
          refine o_iast hX dX8_put_88 ha (by omega) (by omega) (by decide) (fun M1 hs1 hn1 => ?_)
          refine g_aload hX dX8_put_89 rfl rfl ?_
          refine g_get hX dX8_put_90 ((hn1 p (Ne.symm hap)).trans hm) rfl ?_
          refine g_iload hX dX8_put_93 rfl ?_
          refine g_iload hX dX8_put_94 rfl ?_
          refine o_iast hX dX8_put_96 ((hn1 b (Ne.symm hab)).trans hb) (by omega) (by omega) (by decide) (fun M2 hs2 hn2 => ?_)
          refine g_vret hX hR dX8_put_97 rfl (by decide) (by decide) ?_
          have hopn : opnZ y su S.1 rk d := ⟨c78.1, by rw [← wday_of y d hy]; exact c78.2⟩
          have hd1 : dayZ y su S.1 rk po (ownF y mo dy) = (d : Int) := by rw [← hinv]; exact fst_s _ _ _ hopn
          have hSS : lyS y su rk po mo dy k S = (iu S.1 d (k : Int), iu S.2 k (d : Int)) := by
            unfold lyS
            rw [hd1, if_neg (by omega)]
            rfl
          refine hK M2 (by rw [hSS]; exact ⟨(hn2 p (Ne.symm hbp)).trans ((hn1 p (Ne.symm hap)).trans hm), (hn2 a hab).trans (hs1.trans (congrArg _ (congrArg _ (congrArg _ (congrArg _ (congrArg _ (upd_iZ _ _ _))))))), hs2.trans (congrArg _ (congrArg _ (congrArg _ (congrArg _ (congrArg _ (upd_iZ _ _ _))))))⟩) (fun q h1 h2 => (hn2 q h2).trans (hn1 q h1))
  refine g_aload hX dX8_put_0 rfl rfl ?_
  refine g_aload hX dX8_put_1 rfl rfl ?_
  refine g_get hX dX8_put_2 (by assumption) rfl ?_
  refine g_cVN1 (c2 := 0) (s2 := 0) hX (s_X1_ownDay hst) dX8_put_5 (by assumption) (by first | exact Nat.le_of_ble_eq_true rfl | simp [cat_rf, Value.category]) ⟨rfl, rfl, by decide, by decide⟩ ?_
  refine ⟨_, _, _, _, _, _, _, rfl, hr, hy, ⟨hF1, hF2, hF3⟩, Kc_i ?_⟩
  refine g_istore hX dX8_put_8 ?_
  dsimp only [List.set]
  refine g_iload hX dX8_put_9 rfl ?_
  refine g_const hX dX8_put_10 ?_
  refine z_icmp_eq hX dX8_put_12 (by constructor <;> omega) (by constructor <;> omega) (fun c12 => ?_) (fun c12 => ?_)
  · refine g_vret hX hR dX8_put_28 rfl (by decide) (by decide) ?_
    have hd0 : dayZ y su S.1 rk po (ownF y mo dy) = -100 := by unfold dayZ; rw [if_pos c12]
    have hSS : lyS y su rk po mo dy k S = S := by
      unfold lyS
      rw [hd0, if_pos rfl]
      refine Prod.ext rfl ?_
      funext q
      show iu S.2 k (-100) q = S.2 q
      unfold iu
      split
      · rename_i e; rw [e]; exact hSk.symm
      · rfl
    exact hK M (by rw [hSS]; exact ⟨hm, ha, hb⟩) (fun _ _ _ => rfl)
  · refine g_iload hX dX8_put_15 rfl ?_
    refine z_if_lt hX dX8_put_16 (by constructor <;> omega) (fun c16 => ?_) (fun c16 => ?_)
    · exfalso; omega
    · refine g_iload hX dX8_put_19 rfl ?_
      refine g_aload hX dX8_put_20 rfl rfl ?_
      refine g_get hX dX8_put_21 (by assumption) rfl ?_
      refine z_alen hX dX8_put_24 (by assumption) (by decide) ?_
      dsimp only
      refine z_icmp_lt hX dX8_put_25 (by constructor <;> omega) (by constructor <;> omega) (fun c25 => ?_) (fun c25 => ?_)
      · refine g_aload hX dX8_put_29 rfl rfl ?_
        refine g_get hX dX8_put_30 (by assumption) rfl ?_
        refine z_if_eq hX dX8_put_33 (by constructor <;> omega) (fun c33 => ?_) (fun c33 => ?_)
        · refine g_iload hX dX8_put_43 rfl ?_
          refine g_aload hX dX8_put_44 rfl rfl ?_
          refine g_get hX dX8_put_45 (by assumption) rfl ?_
          refine g_cSN1 (c2 := 0) (s2 := 0) hX (s_X0_yearLength hst) dX8_put_48 (by first | exact Nat.le_of_ble_eq_true rfl | simp [cat_rf, Value.category]) ⟨rfl, rfl, by decide, by decide⟩ ?_
          refine ⟨_, rfl, by omega, Kc_i ?_⟩
          refine g_const hX dX8_put_51 ?_
          refine z_isub hX dX8_put_52 ?_
          refine z_mmin hX dmX8_put_53 (by constructor <;> omega) (by constructor <;> omega) (by first | exact Nat.le_of_ble_eq_true rfl | simp [cat_rf, Value.category]) (by decide) (by decide) ?_
          refine g_istore hX dX8_put_56 ?_
          dsimp only [List.set]
          refine g_iload hX dX8_put_58 rfl ?_
          refine g_istore hX dX8_put_59 ?_
          dsimp only [List.set]
          have hown : 0 ≤ ownF y mo dy := by omega
          have hlast : (if ylenZ y - 1 < ownF y mo dy then ylenZ y - 1 else ownF y mo dy) = lstZ y po (ownF y mo dy) := by (unfold lstZ); (first | rw [if_pos (show po = 1 by omega)] | rw [if_neg (show ¬ po = 1 by omega)]); (split <;> split <;> omega)
          rw [hlast]
          have hnat : ownF y mo dy = (((ownF y mo dy).toNat : Nat) : Int) := by omega
          refine g_eqL (lv' := [.ref p, .int (iZ (k : Int)), .ref r, .int (iZ (ownF y mo dy)), .int (iZ (lstZ y po (ownF y mo dy))), .int (iZ (((ownF y mo dy).toNat : Nat) : Int))]) (by rw [← hnat]) rfl ?_
          exact loop _ (ownF y mo dy).toNat rfl (by omega) (by unfold dayZ; rw [if_neg c12, ← hnat])
        · refine g_iload hX dX8_put_36 rfl ?_
          refine g_const hX dX8_put_37 ?_
          refine z_iadd hX dX8_put_39 ?_
          refine g_goto hX dX8_put_40 ?_
          refine g_aload hX dX8_put_44 rfl rfl ?_
          refine g_get hX dX8_put_45 (by assumption) rfl ?_
          refine g_cSN1 (c2 := 0) (s2 := 0) hX (s_X0_yearLength hst) dX8_put_48 (by first | exact Nat.le_of_ble_eq_true rfl | simp [cat_rf, Value.category]) ⟨rfl, rfl, by decide, by decide⟩ ?_
          refine ⟨_, rfl, by omega, Kc_i ?_⟩
          refine g_const hX dX8_put_51 ?_
          refine z_isub hX dX8_put_52 ?_
          refine z_mmin hX dmX8_put_53 (by constructor <;> omega) (by constructor <;> omega) (by first | exact Nat.le_of_ble_eq_true rfl | simp [cat_rf, Value.category]) (by decide) (by decide) ?_
          refine g_istore hX dX8_put_56 ?_
          dsimp only [List.set]
          refine g_iload hX dX8_put_58 rfl ?_
          refine g_istore hX dX8_put_59 ?_
          dsimp only [List.set]
          have hown : 0 ≤ ownF y mo dy := by omega
          have hlast : (if ylenZ y - 1 < ownF y mo dy + 30 then ylenZ y - 1 else ownF y mo dy + 30) = lstZ y po (ownF y mo dy) := by (unfold lstZ); (first | rw [if_pos (show po = 1 by omega)] | rw [if_neg (show ¬ po = 1 by omega)]); (split <;> split <;> omega)
          rw [hlast]
          have hnat : ownF y mo dy = (((ownF y mo dy).toNat : Nat) : Int) := by omega
          refine g_eqL (lv' := [.ref p, .int (iZ (k : Int)), .ref r, .int (iZ (ownF y mo dy)), .int (iZ (lstZ y po (ownF y mo dy))), .int (iZ (((ownF y mo dy).toNat : Nat) : Int))]) (by rw [← hnat]) rfl ?_
          exact loop _ (ownF y mo dy).toNat rfl (by omega) (by unfold dayZ; rw [if_neg c12, ← hnat])
      · exfalso; omega

def sp_X8_layOut : hS := fun as M sz K => ∃ (aD p a b la ea n : Nat) (y0 w0 su0 y su : Int) (S0 : LY) (f rd : Nat → Nat) (F : Nat → Nat → Int), as = [.ref p, .int (iZ y), .ref la, .int (iZ su)] ∧ PLN M p a b y0 w0 su0 S0 ∧ a ≠ b ∧ LSt aD M la ea n f ∧ (∀ i, i < n → M (f i) = some (.inl (1, [.int (iZ (F 0 i)), .int (iZ (F 1 i)), .int (iZ (F 2 i)), .int (iZ (F 3 i)), .ref (rd i)]))) ∧ FA F n ∧ (1600 ≤ y ∧ y ≤ 2399) ∧ (0 ≤ su ∧ su ≤ 9) ∧ (∀ M' : hM, PLN M' p a b y (wdayZ y 0) su (lyR F y su n 9) → (∀ q, q ≠ p → q ≠ a → q ≠ b → M' q = M q) → K (.inl none) M' sz)
theorem s_X8_layOut {l : Launch} {g : hG} (hst : l.stackTraces = false) : Ctr l g mX8_layOut sp_X8_layOut := by
  refine Ctr.mk9 hst (by decide) ?_ ?_
  · rintro as M sz K ⟨aD, p, a, b, la, ea, n, y0, w0, su0, y, su, S0, f, rd, F, rfl, ⟨hm, ha, hb⟩, hab, hL, hFe, hFA, hy, hsu, hK⟩
    exact ⟨by simp [mX8_layOut], cat_ok rfl⟩
  rintro X as M sz K hX rfl rfl hR ⟨aD, p, a, b, la, ea, n, y0, w0, su0, y, su, S0, f, rd, F, rfl, ⟨hm, ha, hb⟩, hab, hL, hFe, hFA, hy, hsu, hK⟩
  show G X 0 [.ref p, .int (iZ y), .ref la, .int (iZ su), U9, U9] [] M sz 0 0
  have hne9 : ∀ q1 q2 : Nat, ∀ x1 x2 : hC, M q1 = some x1 → M q2 = some x2 → x1 ≠ x2 → q1 ≠ q2 := fun q1 q2 x1 x2 h1 h2 h3 e => h3 (by rw [e, h2] at h1; exact (Option.some.inj h1).symm)
  have hap : a ≠ p := hne9 _ _ _ _ ha hm (by simp)
  have hbp : b ≠ p := hne9 _ _ _ _ hb hm (by simp)
  have hw := wday_r y 0
  have hcell : ∀ i, i < n → ∀ M1 : hM, (∀ q, q ≠ p → q ≠ a → q ≠ b → M1 q = M q) → M1 (f i) = some (.inl (1, [.int (iZ (F 0 i)), .int (iZ (F 1 i)), .int (iZ (F 2 i)), .int (iZ (F 3 i)), .ref (rd i)])) := fun i hi M1 h9 => (h9 _ (hne9 _ _ _ _ (hFe i hi) hm (by simp)) (hne9 _ _ _ _ (hFe i hi) ha (by simp)) (hne9 _ _ _ _ (hFe i hi) hb (by simp))).trans (hFe i hi)
  have hLst : ∀ M1 : hM, (∀ q, q ≠ p → q ≠ a → q ≠ b → M1 q = M q) → LSt aD M1 la ea n f := by
    intro M1 h9
    obtain ⟨mod, g1, g2⟩ := hL
    refine ⟨mod, (h9 _ (hne9 _ _ _ _ g1 hm (by simp)) (hne9 _ _ _ _ g1 ha (by simp)) (hne9 _ _ _ _ g1 hb (by simp))).trans g1, ?_⟩
    rcases g2 with g2 | ⟨len, f', g2, g3⟩
    · exact Or.inl g2
    · exact Or.inr ⟨len, f', (h9 _ (hne9 _ _ _ _ g2 hm (by simp)) (hne9 _ _ _ _ g2 ha (by simp)) (hne9 _ _ _ _ g2 hb (by simp))).trans g2, g3⟩
  have hrk : ∀ j, j < n → inR (F 0 j) := fun j hj => by have := (hFA.2 j hj).1; constructor <;> omega
  have inner : ∀ t : Nat, t < 9 → (∀ (M1 : hM) (S : LY), PLN M1 p a b y (wdayZ y 0) su S → (∀ q, q ≠ p → q ≠ a → q ≠ b → M1 q = M q) → S = lyR F y su n (t + 1) → G X 97 [.ref p, .int (iZ y), .ref la, .int (iZ su), .int (iZ (9 - (t : Int))), .int (iZ (n : Int))] [] M1 sz 0 0) → ∀ (k9 j : Nat) (M1 : hM) (S : LY), PLN M1 p a b y (wdayZ y 0) su S → (∀ q, q ≠ p → q ≠ a → q ≠ b → M1 q = M q) → j + k9 = n → S = lyJ F y su (9 - (t : Int)) j (lyR F y su n t) → G X 50 [.ref p, .int (iZ y), .ref la, .int (iZ su), .int (iZ (9 - (t : Int))), .int (iZ (j : Int))] [] M1 sz 0 0 := by
    intro t ht hend k9
    have hn20 := hFA.1
    induction k9 with
    | zero =>
      intro j M1 S hP1 hfr1 hj hS1
      obtain ⟨mod9, hla9, -⟩ := hLst M1 hfr1
      obtain rfl : j = n := by omega
      refine g_iload hX dX8_layOut_50 rfl ?_
      refine g_aload hX dX8_layOut_52 rfl rfl ?_
      refine g_cV0 (c2 := 0) (s2 := 0) hX (s_Jx4a65c_size_8abf5 hst) dX8_layOut_53 (by assumption) (by first | exact Nat.le_of_ble_eq_true rfl | simp [cat_rf, Value.category]) ⟨rfl, rfl, by decide, by decide⟩ ?_
      refine ⟨_, _, _, _, _, rfl, hLst _ hfr1, Kc_i ?_⟩
      refine z_icmp_ge hX dX8_layOut_56 (by first | assumption | (constructor <;> omega)) (by first | assumption | (constructor <;> omega)) (fun c56 => ?_) (fun c56 => ?_)
      · exact hend _ _ hP1 hfr1 (by rw [hS1]; rfl)
      · exact absurd c56 (by omega)
    | succ k9 ih =>
      intro j M1 S hP1 hfr1 hj hS1
      obtain ⟨mod9, hla9, -⟩ := hLst M1 hfr1
      have hrk9 := hrk j (by omega)
      have hrF := (hFA.2 j (by omega)).1
      refine g_iload hX dX8_layOut_50 rfl ?_
      refine g_aload hX dX8_layOut_52 rfl rfl ?_
      refine g_cV0 (c2 := 0) (s2 := 0) hX (s_Jx4a65c_size_8abf5 hst) dX8_layOut_53 (by first | exact hcell j (by omega) _ hfr1 | assumption | exact hP1.1) (by first | exact Nat.le_of_ble_eq_true rfl | simp [cat_rf, Value.category]) ⟨rfl, rfl, by decide, by decide⟩ ?_
      refine ⟨_, _, _, _, _, rfl, hLst _ hfr1, Kc_i ?_⟩
      refine z_icmp_ge hX dX8_layOut_56 (by first | assumption | (constructor <;> omega)) (by first | assumption | (constructor <;> omega)) (fun c56 => ?_) (fun c56 => ?_)
      · exact absurd c56 (by omega)
      · refine g_aload hX dX8_layOut_59 rfl rfl ?_
        refine g_iload hX dX8_layOut_60 rfl ?_
        refine g_cV1 (c2 := 0) (s2 := 0) hX (s_Jx4a65c_get_915e3 hst) dX8_layOut_62 (by first | exact hcell j (by omega) _ hfr1 | assumption | exact hP1.1) (by first | exact Nat.le_of_ble_eq_true rfl | simp [cat_rf, Value.category]) ⟨rfl, rfl, by decide, by decide⟩ ?_
        refine ⟨_, _, _, _, _, _, rfl, hLst _ hfr1, by omega, Kc_i ?_⟩
        simp only [Int.toNat_natCast]
        refine g_cast hX dX8_layOut_65 (by first | exact hcell j (by omega) _ hfr1 | assumption | exact hP1.1) ?_
        refine g_get hX dX8_layOut_68 (by first | exact hcell j (by omega) _ hfr1 | assumption | exact hP1.1) rfl ?_
        refine g_iload hX dX8_layOut_71 rfl ?_
        refine z_icmp_ne hX dX8_layOut_73 (by first | assumption | (constructor <;> omega)) (by first | assumption | (constructor <;> omega)) (fun c73 => ?_) (fun c73 => ?_)
        · refine z_iinc hX dX8_layOut_91 rfl ?_
          dsimp only [List.set]
          refine g_goto hX dX8_layOut_94 ?_
          exact ih (j + 1) _ _ hP1 hfr1 (by omega) (by rw [hS1, lyJ_s, if_neg (by omega)])
        · refine g_aload hX dX8_layOut_76 rfl rfl ?_
          refine g_iload hX dX8_layOut_77 rfl ?_
          refine g_aload hX dX8_layOut_79 rfl rfl ?_
          refine g_iload hX dX8_layOut_80 rfl ?_
          refine g_cV1 (c2 := 0) (s2 := 0) hX (s_Jx4a65c_get_915e3 hst) dX8_layOut_82 (by first | exact hcell j (by omega) _ hfr1 | assumption | exact hP1.1) (by first | exact Nat.le_of_ble_eq_true rfl | simp [cat_rf, Value.category]) ⟨rfl, rfl, by decide, by decide⟩ ?_
          refine ⟨_, _, _, _, _, _, rfl, hLst _ hfr1, by omega, Kc_i ?_⟩
          simp only [Int.toNat_natCast]
          refine g_cast hX dX8_layOut_85 (by first | exact hcell j (by omega) _ hfr1 | assumption | exact hP1.1) ?_
          refine g_cV2 (c2 := 0) (s2 := 0) hX (s_X8_put hst) dX8_layOut_88 (by first | exact hcell j (by omega) _ hfr1 | assumption | exact hP1.1) (by first | exact Nat.le_of_ble_eq_true rfl | simp [cat_rf, Value.category]) ⟨rfl, rfl, by decide, by decide⟩ ?_
          refine ⟨_, _, _, _, _, _, _, _, _, _, _, _, _, rfl, hP1, hcell j (by omega) _ hfr1, hab, hy, hFA.2 j (by omega), by omega, hsu, hS1 ▸ LR_lyJ hFA (LR_lyR hFA t) j (by omega), by rw [hS1, lyJ_un j (fun h9 => by omega)]; exact lyR_un t (by omega), fun M2 hP2 hfr2 => Kc_v ?_⟩
          have hfr3 : ∀ q, q ≠ p → q ≠ a → q ≠ b → M2 q = M q := fun q h1 h2 h3 => (hfr2 q h2 h3).trans (hfr1 q h1 h2 h3)
          refine z_iinc hX dX8_layOut_91 rfl ?_
          dsimp only [List.set]
          refine g_goto hX dX8_layOut_94 ?_
          exact ih (j + 1) _ _ hP2 hfr3 (by omega) (by rw [hS1, lyJ_s, if_pos (by omega)])
  have outer : ∀ (k9 t : Nat) (v : Value) (M1 : hM) (S : LY), PLN M1 p a b y (wdayZ y 0) su S → (∀ q, q ≠ p → q ≠ a → q ≠ b → M1 q = M q) → t + k9 = 9 → S = lyR F y su n t → G X 41 [.ref p, .int (iZ y), .ref la, .int (iZ su), .int (iZ (9 - (t : Int))), v] [] M1 sz 0 0 := by
    intro k9
    induction k9 with
    | zero =>
      intro t v M1 S hP1 hfr1 ht hS1
      refine g_iload hX dX8_layOut_41 rfl ?_
      refine g_const hX dX8_layOut_43 ?_
      refine z_icmp_lt hX dX8_layOut_44 (by constructor <;> omega) (by constructor <;> omega) (fun c44 => ?_) (fun c44 => ?_)
      · refine g_vret hX hR dX8_layOut_103 rfl (by decide) (by decide) ?_
        obtain rfl : t = 9 := by omega
        exact hK M1 (hS1 ▸ hP1) hfr1
      · exact absurd c44 (by omega)
    | succ k9 ih =>
      intro t v M1 S hP1 hfr1 ht hS1
      refine g_iload hX dX8_layOut_41 rfl ?_
      refine g_const hX dX8_layOut_43 ?_
      refine z_icmp_lt hX dX8_layOut_44 (by constructor <;> omega) (by constructor <;> omega) (fun c44 => ?_) (fun c44 => ?_)
      · refine g_vret hX hR dX8_layOut_103 rfl (by decide) (by decide) ?_
        exact absurd c44 (by omega)
      · refine g_const hX dX8_layOut_47 ?_
        refine g_istore hX dX8_layOut_48 ?_
        dsimp only [List.set]
        refine inner t (by omega) (fun M2 S2 hP2 hfr2 hS2 => ?_) n 0 M1 S hP1 hfr1 (by omega) (by rw [hS1]; rfl)
        refine z_iinc hX dX8_layOut_97 rfl ?_
        dsimp only [List.set]
        refine g_goto hX dX8_layOut_100 ?_
        refine g_eqL (lv' := [.ref p, .int (iZ y), .ref la, .int (iZ su), .int (iZ (9 - ((t + 1 : Nat) : Int))), .int (iZ (n : Int))]) (by rw [show (9 : Int) - (t : Int) + -1 = 9 - ((t + 1 : Nat) : Int) by omega]) rfl ?_
        exact ih (t + 1) (.int (iZ (n : Int))) M2 S2 hP2 hfr2 (by omega) hS2
  refine g_aload hX dX8_layOut_0 rfl rfl ?_
  refine g_iload hX dX8_layOut_1 rfl ?_
  refine o_put hX dX8_layOut_2 (by assumption) (by simp) rfl rfl (fun M1 hs1 hn1 => ?_)
  dsimp only [List.set] at hs1
  have hm := hs1
  have ha := (hn1 a hap).trans ha
  have hb := (hn1 b hbp).trans hb
  refine g_aload hX dX8_layOut_5 rfl rfl ?_
  refine g_iload hX dX8_layOut_6 rfl ?_
  refine g_const hX dX8_layOut_7 ?_
  refine g_cSN2 (c2 := 0) (s2 := 0) hX (s_X0_dayOfWeek hst) dX8_layOut_8 (by first | exact Nat.le_of_ble_eq_true rfl | simp [cat_rf, Value.category]) ⟨rfl, rfl, by decide, by decide⟩ ?_
  refine ⟨_, _, rfl, by omega, by omega, Kc_i ?_⟩
  refine o_put hX dX8_layOut_11 (by assumption) (by simp) rfl rfl (fun M2 hs2 hn2 => ?_)
  dsimp only [List.set] at hs2
  have hm := hs2
  have ha := (hn2 a hap).trans ha
  have hb := (hn2 b hbp).trans hb
  refine g_aload hX dX8_layOut_14 rfl rfl ?_
  refine g_iload hX dX8_layOut_15 rfl ?_
  refine o_put hX dX8_layOut_16 (by assumption) (by simp) rfl rfl (fun M3 hs3 hn3 => ?_)
  dsimp only [List.set] at hs3
  have hm := hs3
  have ha := (hn3 a hap).trans ha
  have hb := (hn3 b hbp).trans hb
  refine g_aload hX dX8_layOut_19 rfl rfl ?_
  refine g_get hX dX8_layOut_20 (by assumption) rfl ?_
  refine g_const hX dX8_layOut_23 ?_
  refine g_cS2 (c2 := 0) (s2 := 0) hX (s_J7_fill_53178 hst) dX8_layOut_25 (by first | exact Nat.le_of_ble_eq_true rfl | simp [cat_rf, Value.category]) ⟨rfl, rfl, by decide, by decide⟩ ?_
  refine ⟨_, _, _, _, rfl, ha, by decide, Kc_v ?_⟩
  generalize hg4 : hup _ a _ = M4
  have hn4 : ∀ q, q ≠ a → M4 q = M3 q := fun q h => (congrFun hg4 q).symm.trans (hup_n _ _ h)
  have hs4 : M4 a = _ := (congrFun hg4 a).symm.trans (hup_s _ _ _)
  have hm := (hn4 p (Ne.symm hap)).trans hm
  have hb := (hn4 b (Ne.symm hab)).trans hb
  refine g_aload hX dX8_layOut_28 rfl rfl ?_
  refine g_get hX dX8_layOut_29 (by assumption) rfl ?_
  refine g_const hX dX8_layOut_32 ?_
  refine g_cS2 (c2 := 0) (s2 := 0) hX (s_J7_fill_53178 hst) dX8_layOut_34 (by first | exact Nat.le_of_ble_eq_true rfl | simp [cat_rf, Value.category]) ⟨rfl, rfl, by decide, by decide⟩ ?_
  refine ⟨_, _, _, _, rfl, hb, by decide, Kc_v ?_⟩
  generalize hg5 : hup _ b _ = M5
  have hn5 : ∀ q, q ≠ b → M5 q = M4 q := fun q h => (congrFun hg5 q).symm.trans (hup_n _ _ h)
  have hs5 : M5 b = _ := (congrFun hg5 b).symm.trans (hup_s _ _ _)
  have hm := (hn5 p (Ne.symm hbp)).trans hm
  have ha := (hn5 a hab).trans hs4
  refine g_const hX dX8_layOut_37 ?_
  refine g_istore hX dX8_layOut_39 ?_
  dsimp only [List.set]
  refine outer 9 0 _ M5 (fun _ => -100, fun _ => -100) ⟨hm, ha, hs5⟩ (fun q h1 h2 h3 => (hn5 q h3).trans ((hn4 q h2).trans ((hn3 q h1).trans ((hn2 q h1).trans (hn1 q h1))))) (by omega) rfl
