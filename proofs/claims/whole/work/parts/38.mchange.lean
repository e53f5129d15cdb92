/-! the reference: the calls that change -/
theorem cOf_ge : ∀ k : Nat, k < 25 → 5 ≤ cOf k := by decide
theorem mfl_c {b : Nat} {σ : SG} {c i k : Nat} {v th : Int} (h : 5 ≤ c) : MFL b (sup σ c i k v) th = MFL b σ th := by
  unfold MFL
  rw [sup_c σ v (show 0 ≠ c by omega), sup_c σ v (show 1 ≠ c by omega), sup_c σ v (show 2 ≠ c by omega), sup_c σ v (show 3 ≠ c by omega), sup_c σ v (show 4 ≠ c by omega)]
theorem mfl_s0 {b : Nat} {σ : SG} {v th : Int} : (MFL b σ th).set 0 (.int (iZ v)) = MFL b (sup σ 0 0 0 v) th := by
  simp [MFL, sup]
theorem mfl_s1 {b : Nat} {σ : SG} {v th : Int} : (MFL b σ th).set 7 (.int (iZ v)) = MFL b (sup σ 1 0 0 v) th := by
  simp [MFL, sup]
theorem mfl_s2 {b : Nat} {σ : SG} {v th : Int} : (MFL b σ th).set 15 (.int (iZ v)) = MFL b (sup σ 2 0 0 v) th := by
  simp [MFL, sup]
theorem mfl_s3 {b : Nat} {σ : SG} {v th : Int} : (MFL b σ th).set 25 (.int (iZ v)) = MFL b (sup σ 3 0 0 v) th := by
  simp [MFL, sup]
theorem mfl_s4 {b : Nat} {σ : SG} {v th : Int} : (MFL b σ th).set 21 (.int (iZ v)) = MFL b (sup σ 4 0 0 v) th := by
  simp [MFL, sup]
theorem upd_sup1 (σ0 σ : SG) (c n : Nat) (v : Int) (e : σ c = σ0 c) : upd (fun i => iZ (σ0 c i 0)) n (iZ v) = fun i => iZ (sup σ c n 0 v c i 0) := by
  rw [← e]
  funext q
  unfold upd sup
  by_cases h : q = n
  · rw [if_pos h, if_pos ⟨rfl, h, rfl⟩]
  · rw [if_neg h, if_neg (fun g => h g.2.1)]
theorem upd_sup8 (σ0 σ : SG) (c t k : Nat) (hk : k < 8) (v : Int) (e : σ c = σ0 c) : upd (fun i => iZ (σ0 c (i / 8) (i % 8))) (8 * t + k) (iZ v) = fun i => iZ (sup σ c t k v c (i / 8) (i % 8)) := by
  rw [← e]
  funext q
  unfold upd sup
  by_cases h : q = 8 * t + k
  · rw [if_pos h, if_pos ⟨rfl, by omega, by omega⟩]
  · rw [if_neg h, if_neg (fun g => h (by have := g.2.1; have := g.2.2; omega))]
theorem upd_sup3 (σ0 σ : SG) (c t k : Nat) (hk : k < 3) (v : Int) (e : σ c = σ0 c) : upd (fun i => iZ (σ0 c (i / 3) (i % 3))) (3 * t + k) (iZ v) = fun i => iZ (sup σ c t k v c (i / 3) (i % 3)) := by
  rw [← e]
  funext q
  unfold upd sup
  by_cases h : q = 3 * t + k
  · rw [if_pos h, if_pos ⟨rfl, by omega, by omega⟩]
  · rw [if_neg h, if_neg (fun g => h (by have := g.2.1; have := g.2.2; omega))]
section MXC
variable {b r : Nat} {σ : SG} {th : Int} {P Q : Nat → Int} {M M1 : hM}
theorem mx_sto {j : Nat} (H : MX b r σ th P Q M) (c i k : Nat) (v : Int) (hj : j < 25) (hc : cOf j = c) (h5 : 5 ≤ c) (h1 : M1 (b + j) = some (MAR (sup σ c i k v) P Q j)) (h2 : ∀ q, q ≠ b + j → M1 q = M q) : MX b r (sup σ c i k v) th P Q M1 :=
  H.upd (fun j' => j' = j) (((h2 r (by have := H.1; omega)).trans H.2.1).trans (by rw [mfl_c h5])) (fun j' hj' hs => MAR_c hj' (sup_c _ _ (fun e => hs (cOf_inj j' hj' j hj (e.trans hc.symm))))) (fun q h3 h4 => h2 q (h4 j hj rfl)) (fun j' hj' hs => by rw [hs]; exact h1)
theorem mx_cnt (H : MX b r σ th P Q M) (c : Nat) (v : Int) (hc : c < 5) (h1 : M1 r = some (.inl (10, MFL b (sup σ c 0 0 v) th))) (h2 : ∀ q, q ≠ r → M1 q = M q) : MX b r (sup σ c 0 0 v) th P Q M1 :=
  ⟨H.1, h1, fun k hk => ((h2 _ (by have := H.1; omega)).trans (H.2.2 k hk)).trans (by rw [MAR_c hk (sup_c _ _ (by have := cOf_ge k hk; omega))])⟩
end MXC
theorem sup_cm (σ : SG) {c1 c2 : Nat} (i1 k1 i2 k2 : Nat) (v1 v2 : Int) (h : c1 ≠ c2) : sup (sup σ c1 i1 k1 v1) c2 i2 k2 v2 = sup (sup σ c2 i2 k2 v2) c1 i1 k1 v1 := by
  funext c i k
  by_cases e : c = c1
  · rw [e, sup_c (sup σ c1 i1 k1 v1) v2 h]
    unfold sup
    simp [h]
  · rw [sup_c (sup σ c2 i2 k2 v2) v1 e]
    unfold sup
    simp [e]

def sp_X10_text : hS := fun as M sz K => ∃ (b r : Nat) (σ : SG) (th : Int) (P Q : Nat → Int) (x z : Int), as = [.ref r, .int (iZ x), .int (iZ z)] ∧ MX b r σ th P Q M ∧ SV σ ∧ inR x ∧ inR z ∧ MO b r (oc_text σ x z) K
theorem s_X10_text {l : Launch} {g : hG} (hst : l.stackTraces = false) : Ctr l g mX10_text sp_X10_text := by
  refine Ctr.mk9 hst (by decide) ?_ ?_
  · rintro as M sz K ⟨b, r, σ, th, P, Q, x, z, rfl, hM, hV, rx, rz, hK⟩
    exact ⟨by simp [mX10_text], cat_ok rfl⟩
  rintro X as M sz K hX rfl rfl hR ⟨b, r, σ, th, P, Q, x, z, rfl, hM, hV, rx, rz, hK⟩
  show G X 0 [.ref r, .int (iZ x), .int (iZ z)] [] M sz 0 0
  obtain ⟨n0, n1, n2, n3, ⟨e0, hn0⟩, ⟨e1, hn1⟩, ⟨e2, hn2⟩, ⟨e3, hn3⟩⟩ := hV.nat
  have ha0 : M (b) = some (.inr (0, 12, .inl (fun i => iZ (σ 10 i 0)))) := hM.2.2 0 (by decide)
  have ha1 : M (b + 1) = some (.inr (0, 12, .inl (fun i => iZ (σ 11 i 0)))) := hM.2.2 1 (by decide)
  refine g_aload hX dX10_text_0 rfl rfl ?_
  refine g_iload hX dX10_text_1 rfl ?_
  refine g_cS1 (c2 := 0) (s2 := 0) hX (s_X10_isDeath hst) dX10_text_2 (by first | exact Nat.le_of_ble_eq_true rfl | simp [cat_rf, Value.category]) ⟨rfl, rfl, by decide, by decide⟩ ?_
  refine ⟨_, rfl, (by first | assumption | (constructor <;> omega)), Kc_i ?_⟩
  refine z_ifb_eq hX dX10_text_5 (fun c5 => ?_) (fun c5 => ?_)
  · refine g_const hX dX10_text_18 ?_
    refine g_goto hX dX10_text_19 ?_
    refine o_put hX dX10_text_36 hM.2.1 (by simp [MFL]) rfl rfl (fun M1 hs1 hn1 => ?_)
    have hM := hM.th hs1 hn1
    have ha0 : M1 (b) = some (.inr (0, 12, .inl (fun i => iZ (σ 10 i 0)))) := hM.2.2 0 (by decide)
    have ha1 : M1 (b + 1) = some (.inr (0, 12, .inl (fun i => iZ (σ 11 i 0)))) := hM.2.2 1 (by decide)
    
    refine g_aload hX dX10_text_39 rfl rfl ?_
    refine g_get hX dX10_text_40 (by first | assumption | exact hM.2.1) rfl ?_
    refine z_if_le hX dX10_text_43 (by constructor <;> omega) (fun c43 => absurd c43 (by omega)) (fun c43 => ?_)
    
    refine g_const hX dX10_text_46 ?_
    refine g_iret hX hR dX10_text_47 rfl rfl (by decide) (by decide) ?_
    exact MV hK (c := 1) (if_pos (fun q => c5 q.1)) hM hV
  · refine g_iload hX dX10_text_8 rfl ?_
    refine g_const hX dX10_text_9 ?_
    refine g_const hX dX10_text_10 ?_
    refine g_cS3 (c2 := 0) (s2 := 0) hX (s_X10_isIn hst) dX10_text_12 (by first | exact Nat.le_of_ble_eq_true rfl | simp [cat_rf, Value.category]) ⟨rfl, rfl, by decide, by decide⟩ ?_
    refine ⟨_, _, _, rfl, (by first | assumption | (constructor <;> omega)), (by first | assumption | (constructor <;> omega)), (by first | assumption | (constructor <;> omega)), Kc_i ?_⟩
    refine z_ifb_ne hX dX10_text_15 (fun c15 => ?_) (fun c15 => ?_)
    · refine g_aload hX dX10_text_22 rfl rfl ?_
      refine g_get hX dX10_text_23 (by first | assumption | exact hM.2.1) rfl ?_
      refine g_const hX dX10_text_26 ?_
      refine z_icmp_ne hX dX10_text_28 (by first | assumption | (constructor <;> omega)) (by first | assumption | (constructor <;> omega)) (fun c28 => ?_) (fun c28 => ?_)
      · refine g_const hX dX10_text_35 ?_
        refine o_put hX dX10_text_36 hM.2.1 (by simp [MFL]) rfl rfl (fun M1 hs1 hn1 => ?_)
        have hM := hM.th hs1 hn1
        have ha0 : M1 (b) = some (.inr (0, 12, .inl (fun i => iZ (σ 10 i 0)))) := hM.2.2 0 (by decide)
        have ha1 : M1 (b + 1) = some (.inr (0, 12, .inl (fun i => iZ (σ 11 i 0)))) := hM.2.2 1 (by decide)
        
        refine g_aload hX dX10_text_39 rfl rfl ?_
        refine g_get hX dX10_text_40 (by first | assumption | exact hM.2.1) rfl ?_
        refine z_if_le hX dX10_text_43 (by constructor <;> omega) (fun c43 => ?_) (fun c43 => absurd c43 (by omega))
        
        have hrb := hM.1
        have hob := hM.2.1
        have ha0 : M1 (b) = some (.inr (0, 12, .inl (fun i => iZ (σ 10 i 0)))) := hM.2.2 0 (by decide)
        have ha1 : M1 (b + 1) = some (.inr (0, 12, .inl (fun i => iZ (σ 11 i 0)))) := hM.2.2 1 (by decide)
        refine g_aload hX dX10_text_48 rfl rfl ?_
        refine g_get hX dX10_text_49 (by first | assumption | exact hM.2.1) rfl ?_
        refine g_aload hX dX10_text_52 rfl rfl ?_
        refine g_get hX dX10_text_53 (by first | assumption | exact hM.2.1) rfl ?_
        refine g_iload hX dX10_text_56 rfl ?_
        refine o_iast hX dX10_text_57 ha0 (by omega) (by omega) (by decide) (fun M21 hs21 hn21 => ?_)
        have hM := mx_sto (j := 0) hM 10 ((σ 0 0 0).toNat) (0) (x) (by decide) rfl (by decide) (hs21.trans (congrArg (fun f : Nat → Int32 => (some (.inr (0, 12, .inl f)) : Option hC)) (upd_sup1 σ (σ) 10 ((σ 0 0 0).toNat) (x) (rfl)))) hn21
        have hob := (hn21 r (by omega)).trans hob
        have ha1 := (hn21 (b + 1) (by omega)).trans ha1
        refine g_aload hX dX10_text_58 rfl rfl ?_
        refine g_get hX dX10_text_59 (by first | assumption | exact hM.2.1) rfl ?_
        refine g_aload hX dX10_text_62 rfl rfl ?_
        refine g_get hX dX10_text_63 (by first | assumption | exact hM.2.1) rfl ?_
        refine g_iload hX dX10_text_66 rfl ?_
        refine o_iast hX dX10_text_67 ha1 (by omega) (by omega) (by decide) (fun M22 hs22 hn22 => ?_)
        have hM := mx_sto (j := 1) hM 11 ((σ 0 0 0).toNat) (0) (z) (by decide) rfl (by decide) (hs22.trans (congrArg (fun f : Nat → Int32 => (some (.inr (0, 12, .inl f)) : Option hC)) (upd_sup1 σ (sup σ 10 (σ 0 0 0).toNat 0 (x)) 11 ((σ 0 0 0).toNat) (z) (by rw [sup_c _ _ (by decide)])))) hn22
        have hob := (hn22 r (by omega)).trans hob
        refine g_aload hX dX10_text_68 rfl rfl ?_
        refine g_dup hX dX10_text_69 rfl ?_
        refine g_get hX dX10_text_70 (by first | assumption | exact hM.2.1) rfl ?_
        refine g_const hX dX10_text_73 ?_
        refine z_iadd hX dX10_text_74 ?_
        refine o_put hX dX10_text_75 hM.2.1 (by simp [MFL]) rfl rfl (fun M23 hs23 hn23 => ?_)
        have hM := mx_cnt hM 0 (σ 0 0 0 + 1) (by decide) (hs23.trans (congrArg (fun f : List Value => (some (.inl (10, f)) : Option hC)) mfl_s0)) hn23
        refine g_aload hX dX10_text_78 rfl rfl ?_
        refine g_get hX dX10_text_79 hM.2.1 (v := .int (iZ (σ 0 0 0 + 1))) (by simp [MFL, sup]) ?_
        refine g_const hX dX10_text_82 ?_
        refine z_isub hX dX10_text_83 ?_
        refine g_iret hX hR dX10_text_84 rfl rfl (by decide) (by decide) ?_
        exact kint (MV hK (c := 0) ((if_neg (fun q => q ⟨c5, c15⟩)).trans (if_neg c28)) hM (SV_adT hV ⟨by omega, by omega⟩ c15 (by omega))) (by omega)
      · refine g_const hX dX10_text_31 ?_
        refine g_goto hX dX10_text_32 ?_
        refine o_put hX dX10_text_36 hM.2.1 (by simp [MFL]) rfl rfl (fun M1 hs1 hn1 => ?_)
        have hM := hM.th hs1 hn1
        have ha0 : M1 (b) = some (.inr (0, 12, .inl (fun i => iZ (σ 10 i 0)))) := hM.2.2 0 (by decide)
        have ha1 : M1 (b + 1) = some (.inr (0, 12, .inl (fun i => iZ (σ 11 i 0)))) := hM.2.2 1 (by decide)
        
        refine g_aload hX dX10_text_39 rfl rfl ?_
        refine g_get hX dX10_text_40 (by first | assumption | exact hM.2.1) rfl ?_
        refine z_if_le hX dX10_text_43 (by constructor <;> omega) (fun c43 => absurd c43 (by omega)) (fun c43 => ?_)
        
        refine g_const hX dX10_text_46 ?_
        refine g_iret hX hR dX10_text_47 rfl rfl (by decide) (by decide) ?_
        exact MV hK (c := 2) ((if_neg (fun q => q ⟨c5, c15⟩)).trans (if_pos c28)) hM hV
    · refine g_const hX dX10_text_18 ?_
      refine g_goto hX dX10_text_19 ?_
      refine o_put hX dX10_text_36 hM.2.1 (by simp [MFL]) rfl rfl (fun M1 hs1 hn1 => ?_)
      have hM := hM.th hs1 hn1
      have ha0 : M1 (b) = some (.inr (0, 12, .inl (fun i => iZ (σ 10 i 0)))) := hM.2.2 0 (by decide)
      have ha1 : M1 (b + 1) = some (.inr (0, 12, .inl (fun i => iZ (σ 11 i 0)))) := hM.2.2 1 (by decide)
      
      refine g_aload hX dX10_text_39 rfl rfl ?_
      refine g_get hX dX10_text_40 (by first | assumption | exact hM.2.1) rfl ?_
      refine z_if_le hX dX10_text_43 (by constructor <;> omega) (fun c43 => absurd c43 (by omega)) (fun c43 => ?_)
      
      refine g_const hX dX10_text_46 ?_
      refine g_iret hX hR dX10_text_47 rfl rfl (by decide) (by decide) ?_
      exact MV hK (c := 1) (if_pos (fun q => c15 q.2)) hM hV

def sp_X10_tune : hS := fun as M sz K => ∃ (b r : Nat) (σ : SG) (th : Int) (P Q : Nat → Int) (x lo hi : Int), as = [.ref r, .int (iZ x), .int (iZ lo), .int (iZ hi)] ∧ MX b r σ th P Q M ∧ SV σ ∧ inR x ∧ inR lo ∧ inR hi ∧ MO b r (oc_tune σ x lo hi) K
theorem s_X10_tune {l : Launch} {g : hG} (hst : l.stackTraces = false) : Ctr l g mX10_tune sp_X10_tune := by
  refine Ctr.mk9 hst (by decide) ?_ ?_
  · rintro as M sz K ⟨b, r, σ, th, P, Q, x, lo, hi, rfl, hM, hV, rx, rlo, rhi, hK⟩
    exact ⟨by simp [mX10_tune], cat_ok rfl⟩
  rintro X as M sz K hX rfl rfl hR ⟨b, r, σ, th, P, Q, x, lo, hi, rfl, hM, hV, rx, rlo, rhi, hK⟩
  show G X 0 [.ref r, .int (iZ x), .int (iZ lo), .int (iZ hi)] [] M sz 0 0
  obtain ⟨n0, n1, n2, n3, ⟨e0, hn0⟩, ⟨e1, hn1⟩, ⟨e2, hn2⟩, ⟨e3, hn3⟩⟩ := hV.nat
  have ha6 : M (b + 6) = some (.inr (0, 12, .inl (fun i => iZ (σ 20 i 0)))) := hM.2.2 6 (by decide)
  have ha8 : M (b + 8) = some (.inr (0, 12, .inl (fun i => iZ (σ 21 i 0)))) := hM.2.2 8 (by decide)
  have ha9 : M (b + 9) = some (.inr (0, 12, .inl (fun i => iZ (σ 22 i 0)))) := hM.2.2 9 (by decide)
  refine g_aload hX dX10_tune_0 rfl rfl ?_
  refine g_iload hX dX10_tune_1 rfl ?_
  refine g_cS1 (c2 := 0) (s2 := 0) hX (s_X10_isDeath hst) dX10_tune_2 (by first | exact Nat.le_of_ble_eq_true rfl | simp [cat_rf, Value.category]) ⟨rfl, rfl, by decide, by decide⟩ ?_
  refine ⟨_, rfl, (by first | assumption | (constructor <;> omega)), Kc_i ?_⟩
  refine z_ifb_eq hX dX10_tune_5 (fun c5 => ?_) (fun c5 => ?_)
  · refine g_const hX dX10_tune_28 ?_
    refine g_goto hX dX10_tune_29 ?_
    refine o_put hX dX10_tune_46 hM.2.1 (by simp [MFL]) rfl rfl (fun M1 hs1 hn1 => ?_)
    have hM := hM.th hs1 hn1
    have ha6 : M1 (b + 6) = some (.inr (0, 12, .inl (fun i => iZ (σ 20 i 0)))) := hM.2.2 6 (by decide)
    have ha8 : M1 (b + 8) = some (.inr (0, 12, .inl (fun i => iZ (σ 21 i 0)))) := hM.2.2 8 (by decide)
    have ha9 : M1 (b + 9) = some (.inr (0, 12, .inl (fun i => iZ (σ 22 i 0)))) := hM.2.2 9 (by decide)
    
    refine g_aload hX dX10_tune_49 rfl rfl ?_
    refine g_get hX dX10_tune_50 (by first | assumption | exact hM.2.1) rfl ?_
    refine z_if_le hX dX10_tune_53 (by constructor <;> omega) (fun c53 => absurd c53 (by omega)) (fun c53 => ?_)
    
    refine g_const hX dX10_tune_56 ?_
    refine g_iret hX hR dX10_tune_57 rfl rfl (by decide) (by decide) ?_
    exact MV hK (c := 1) (if_pos (fun q => c5 q.1)) hM hV
  · refine g_iload hX dX10_tune_8 rfl ?_
    refine g_const hX dX10_tune_9 ?_
    refine g_const hX dX10_tune_10 ?_
    refine g_cS3 (c2 := 0) (s2 := 0) hX (s_X10_isIn hst) dX10_tune_12 (by first | exact Nat.le_of_ble_eq_true rfl | simp [cat_rf, Value.category]) ⟨rfl, rfl, by decide, by decide⟩ ?_
    refine ⟨_, _, _, rfl, (by first | assumption | (constructor <;> omega)), (by first | assumption | (constructor <;> omega)), (by first | assumption | (constructor <;> omega)), Kc_i ?_⟩
    refine z_ifb_eq hX dX10_tune_15 (fun c15 => ?_) (fun c15 => ?_)
    · refine g_const hX dX10_tune_28 ?_
      refine g_goto hX dX10_tune_29 ?_
      refine o_put hX dX10_tune_46 hM.2.1 (by simp [MFL]) rfl rfl (fun M1 hs1 hn1 => ?_)
      have hM := hM.th hs1 hn1
      have ha6 : M1 (b + 6) = some (.inr (0, 12, .inl (fun i => iZ (σ 20 i 0)))) := hM.2.2 6 (by decide)
      have ha8 : M1 (b + 8) = some (.inr (0, 12, .inl (fun i => iZ (σ 21 i 0)))) := hM.2.2 8 (by decide)
      have ha9 : M1 (b + 9) = some (.inr (0, 12, .inl (fun i => iZ (σ 22 i 0)))) := hM.2.2 9 (by decide)
      
      refine g_aload hX dX10_tune_49 rfl rfl ?_
      refine g_get hX dX10_tune_50 (by first | assumption | exact hM.2.1) rfl ?_
      refine z_if_le hX dX10_tune_53 (by constructor <;> omega) (fun c53 => absurd c53 (by omega)) (fun c53 => ?_)
      
      refine g_const hX dX10_tune_56 ?_
      refine g_iret hX hR dX10_tune_57 rfl rfl (by decide) (by decide) ?_
      exact MV hK (c := 1) (if_pos (fun q => c15 q.2.1)) hM hV
    · refine g_iload hX dX10_tune_18 rfl ?_
      refine g_iload hX dX10_tune_19 rfl ?_
      refine g_const hX dX10_tune_20 ?_
      refine g_cS3 (c2 := 0) (s2 := 0) hX (s_X10_isIn hst) dX10_tune_22 (by first | exact Nat.le_of_ble_eq_true rfl | simp [cat_rf, Value.category]) ⟨rfl, rfl, by decide, by decide⟩ ?_
      refine ⟨_, _, _, rfl, (by first | assumption | (constructor <;> omega)), (by first | assumption | (constructor <;> omega)), (by first | assumption | (constructor <;> omega)), Kc_i ?_⟩
      refine z_ifb_ne hX dX10_tune_25 (fun c25 => ?_) (fun c25 => ?_)
      · refine g_aload hX dX10_tune_32 rfl rfl ?_
        refine g_get hX dX10_tune_33 (by first | assumption | exact hM.2.1) rfl ?_
        refine g_const hX dX10_tune_36 ?_
        refine z_icmp_ne hX dX10_tune_38 (by first | assumption | (constructor <;> omega)) (by first | assumption | (constructor <;> omega)) (fun c38 => ?_) (fun c38 => ?_)
        · refine g_const hX dX10_tune_45 ?_
          refine o_put hX dX10_tune_46 hM.2.1 (by simp [MFL]) rfl rfl (fun M1 hs1 hn1 => ?_)
          have hM := hM.th hs1 hn1
          have ha6 : M1 (b + 6) = some (.inr (0, 12, .inl (fun i => iZ (σ 20 i 0)))) := hM.2.2 6 (by decide)
          have ha8 : M1 (b + 8) = some (.inr (0, 12, .inl (fun i => iZ (σ 21 i 0)))) := hM.2.2 8 (by decide)
          have ha9 : M1 (b + 9) = some (.inr (0, 12, .inl (fun i => iZ (σ 22 i 0)))) := hM.2.2 9 (by decide)
          
          refine g_aload hX dX10_tune_49 rfl rfl ?_
          refine g_get hX dX10_tune_50 (by first | assumption | exact hM.2.1) rfl ?_
          refine z_if_le hX dX10_tune_53 (by constructor <;> omega) (fun c53 => ?_) (fun c53 => absurd c53 (by omega))
          
          have hrb := hM.1
          have hob := hM.2.1
          have ha6 : M1 (b + 6) = some (.inr (0, 12, .inl (fun i => iZ (σ 20 i 0)))) := hM.2.2 6 (by decide)
          have ha8 : M1 (b + 8) = some (.inr (0, 12, .inl (fun i => iZ (σ 21 i 0)))) := hM.2.2 8 (by decide)
          have ha9 : M1 (b + 9) = some (.inr (0, 12, .inl (fun i => iZ (σ 22 i 0)))) := hM.2.2 9 (by decide)
          refine g_aload hX dX10_tune_58 rfl rfl ?_
          refine g_get hX dX10_tune_59 (by first | assumption | exact hM.2.1) rfl ?_
          refine g_aload hX dX10_tune_62 rfl rfl ?_
          refine g_get hX dX10_tune_63 (by first | assumption | exact hM.2.1) rfl ?_
          refine g_iload hX dX10_tune_66 rfl ?_
          refine o_iast hX dX10_tune_67 ha6 (by omega) (by omega) (by decide) (fun M21 hs21 hn21 => ?_)
          have hM := mx_sto (j := 6) hM 20 ((σ 1 0 0).toNat) (0) (x) (by decide) rfl (by decide) (hs21.trans (congrArg (fun f : Nat → Int32 => (some (.inr (0, 12, .inl f)) : Option hC)) (upd_sup1 σ (σ) 20 ((σ 1 0 0).toNat) (x) (rfl)))) hn21
          have hob := (hn21 r (by omega)).trans hob
          have ha8 := (hn21 (b + 8) (by omega)).trans ha8
          have ha9 := (hn21 (b + 9) (by omega)).trans ha9
          refine g_aload hX dX10_tune_68 rfl rfl ?_
          refine g_get hX dX10_tune_69 (by first | assumption | exact hM.2.1) rfl ?_
          refine g_aload hX dX10_tune_72 rfl rfl ?_
          refine g_get hX dX10_tune_73 (by first | assumption | exact hM.2.1) rfl ?_
          refine g_iload hX dX10_tune_76 rfl ?_
          refine o_iast hX dX10_tune_77 ha8 (by omega) (by omega) (by decide) (fun M22 hs22 hn22 => ?_)
          have hM := mx_sto (j := 8) hM 21 ((σ 1 0 0).toNat) (0) (lo) (by decide) rfl (by decide) (hs22.trans (congrArg (fun f : Nat → Int32 => (some (.inr (0, 12, .inl f)) : Option hC)) (upd_sup1 σ (sup σ 20 (σ 1 0 0).toNat 0 (x)) 21 ((σ 1 0 0).toNat) (lo) (by rw [sup_c _ _ (by decide)])))) hn22
          have hob := (hn22 r (by omega)).trans hob
          have ha9 := (hn22 (b + 9) (by omega)).trans ha9
          refine g_aload hX dX10_tune_78 rfl rfl ?_
          refine g_get hX dX10_tune_79 (by first | assumption | exact hM.2.1) rfl ?_
          refine g_aload hX dX10_tune_82 rfl rfl ?_
          refine g_get hX dX10_tune_83 (by first | assumption | exact hM.2.1) rfl ?_
          refine g_iload hX dX10_tune_86 rfl ?_
          refine o_iast hX dX10_tune_87 ha9 (by omega) (by omega) (by decide) (fun M23 hs23 hn23 => ?_)
          have hM := mx_sto (j := 9) hM 22 ((σ 1 0 0).toNat) (0) (hi) (by decide) rfl (by decide) (hs23.trans (congrArg (fun f : Nat → Int32 => (some (.inr (0, 12, .inl f)) : Option hC)) (upd_sup1 σ (sup (sup σ 20 (σ 1 0 0).toNat 0 (x)) 21 (σ 1 0 0).toNat 0 (lo)) 22 ((σ 1 0 0).toNat) (hi) (by rw [sup_c _ _ (by decide), sup_c _ _ (by decide)])))) hn23
          have hob := (hn23 r (by omega)).trans hob
          refine g_aload hX dX10_tune_88 rfl rfl ?_
          refine g_dup hX dX10_tune_89 rfl ?_
          refine g_get hX dX10_tune_90 (by first | assumption | exact hM.2.1) rfl ?_
          refine g_const hX dX10_tune_93 ?_
          refine z_iadd hX dX10_tune_94 ?_
          refine o_put hX dX10_tune_95 hM.2.1 (by simp [MFL]) rfl rfl (fun M24 hs24 hn24 => ?_)
          have hM := mx_cnt hM 1 (σ 1 0 0 + 1) (by decide) (hs24.trans (congrArg (fun f : List Value => (some (.inl (10, f)) : Option hC)) mfl_s1)) hn24
          refine g_aload hX dX10_tune_98 rfl rfl ?_
          refine g_get hX dX10_tune_99 hM.2.1 (v := .int (iZ (σ 1 0 0 + 1))) (by simp [MFL, sup]) ?_
          refine g_const hX dX10_tune_102 ?_
          refine z_isub hX dX10_tune_103 ?_
          refine g_iret hX hR dX10_tune_104 rfl rfl (by decide) (by decide) ?_
          exact kint (MV hK (c := 0) ((if_neg (fun q => q ⟨c5, c15, c25⟩)).trans (if_neg c38)) hM (SV_adU hV ⟨by omega, by omega⟩ c15 ⟨by omega, by omega⟩ (by omega))) (by omega)
        · refine g_const hX dX10_tune_41 ?_
          refine g_goto hX dX10_tune_42 ?_
          refine o_put hX dX10_tune_46 hM.2.1 (by simp [MFL]) rfl rfl (fun M1 hs1 hn1 => ?_)
          have hM := hM.th hs1 hn1
          have ha6 : M1 (b + 6) = some (.inr (0, 12, .inl (fun i => iZ (σ 20 i 0)))) := hM.2.2 6 (by decide)
          have ha8 : M1 (b + 8) = some (.inr (0, 12, .inl (fun i => iZ (σ 21 i 0)))) := hM.2.2 8 (by decide)
          have ha9 : M1 (b + 9) = some (.inr (0, 12, .inl (fun i => iZ (σ 22 i 0)))) := hM.2.2 9 (by decide)
          
          refine g_aload hX dX10_tune_49 rfl rfl ?_
          refine g_get hX dX10_tune_50 (by first | assumption | exact hM.2.1) rfl ?_
          refine z_if_le hX dX10_tune_53 (by constructor <;> omega) (fun c53 => absurd c53 (by omega)) (fun c53 => ?_)
          
          refine g_const hX dX10_tune_56 ?_
          refine g_iret hX hR dX10_tune_57 rfl rfl (by decide) (by decide) ?_
          exact MV hK (c := 2) ((if_neg (fun q => q ⟨c5, c15, c25⟩)).trans (if_pos c38)) hM hV
      · refine g_const hX dX10_tune_28 ?_
        refine g_goto hX dX10_tune_29 ?_
        refine o_put hX dX10_tune_46 hM.2.1 (by simp [MFL]) rfl rfl (fun M1 hs1 hn1 => ?_)
        have hM := hM.th hs1 hn1
        have ha6 : M1 (b + 6) = some (.inr (0, 12, .inl (fun i => iZ (σ 20 i 0)))) := hM.2.2 6 (by decide)
        have ha8 : M1 (b + 8) = some (.inr (0, 12, .inl (fun i => iZ (σ 21 i 0)))) := hM.2.2 8 (by decide)
        have ha9 : M1 (b + 9) = some (.inr (0, 12, .inl (fun i => iZ (σ 22 i 0)))) := hM.2.2 9 (by decide)
        
        refine g_aload hX dX10_tune_49 rfl rfl ?_
        refine g_get hX dX10_tune_50 (by first | assumption | exact hM.2.1) rfl ?_
        refine z_if_le hX dX10_tune_53 (by constructor <;> omega) (fun c53 => absurd c53 (by omega)) (fun c53 => ?_)
        
        refine g_const hX dX10_tune_56 ?_
        refine g_iret hX hR dX10_tune_57 rfl rfl (by decide) (by decide) ?_
        exact MV hK (c := 1) (if_pos (fun q => c25 q.2.2)) hM hV

def sp_X10_line : hS := fun as M sz K => ∃ (b r : Nat) (σ : SG) (th : Int) (P Q : Nat → Int) (x m s : Int), as = [.ref r, .int (iZ x), .int (iZ m), .int (iZ s)] ∧ MX b r σ th P Q M ∧ SV σ ∧ inR x ∧ inR m ∧ inR s ∧ MO b r (oc_row 0 13 σ x m s) K
theorem s_X10_line {l : Launch} {g : hG} (hst : l.stackTraces = false) : Ctr l g mX10_line sp_X10_line := by
  refine Ctr.mk9 hst (by decide) ?_ ?_
  · rintro as M sz K ⟨b, r, σ, th, P, Q, x, m, s, rfl, hM, hV, rx, rm, rs, hK⟩
    exact ⟨by simp [mX10_line], cat_ok rfl⟩
  rintro X as M sz K hX rfl rfl hR ⟨b, r, σ, th, P, Q, x, m, s, rfl, hM, hV, rx, rm, rs, hK⟩
  show G X 0 [.ref r, .int (iZ x), .int (iZ m), .int (iZ s)] [] M sz 0 0
  obtain ⟨n0, n1, n2, n3, ⟨e0, hn0⟩, ⟨e1, hn1⟩, ⟨e2, hn2⟩, ⟨e3, hn3⟩⟩ := hV.nat
  have ha3 : M (b + 3) = some (.inr (0, 12, .inl (fun i => iZ (σ 13 i 0)))) := hM.2.2 3 (by decide)
  have ha4 : M (b + 4) = some (.inr (0, 96, .inl (fun i => iZ (σ 14 (i / 8) (i % 8))))) := hM.2.2 4 (by decide)
  have ha5 : M (b + 5) = some (.inr (0, 96, .inl (fun i => iZ (σ 15 (i / 8) (i % 8))))) := hM.2.2 5 (by decide)
  refine g_aload hX dX10_line_0 rfl rfl ?_
  refine g_aload hX dX10_line_1 rfl rfl ?_
  refine g_iload hX dX10_line_2 rfl ?_
  refine g_cV1 (c2 := 0) (s2 := 0) hX (s_X10_isText hst) dX10_line_3 (by first | assumption | exact hM.2.1) (by first | exact Nat.le_of_ble_eq_true rfl | simp [cat_rf, Value.category]) ⟨rfl, rfl, by decide, by decide⟩ ?_
  refine ⟨_, _, _, _, _, _, _, rfl, hM, hV, (by first | assumption | (constructor <;> omega)), Kc_i ?_⟩
  refine z_ifb_ne hX dX10_line_6 (fun c6 => ?_) (fun c6 => ?_)
  · refine g_iload hX dX10_line_13 rfl ?_
    refine g_iload hX dX10_line_14 rfl ?_
    refine g_cS2 (c2 := 0) (s2 := 0) hX (s_X10_isLine hst) dX10_line_15 (by first | exact Nat.le_of_ble_eq_true rfl | simp [cat_rf, Value.category]) ⟨rfl, rfl, by decide, by decide⟩ ?_
    refine ⟨_, _, rfl, (by assumption), (by assumption), Kc_i ?_⟩
    refine z_ifb_ne hX dX10_line_18 (fun c18 => ?_) (fun c18 => ?_)
    · obtain ⟨t, rfl⟩ : ∃ t : Nat, x = (t : Int) := ⟨x.toNat, by omega⟩
      have hT9 := (hV.t t)
      have hRR := hT9.2.2.2.1.1
      refine g_aload hX dX10_line_25 rfl rfl ?_
      refine g_get hX dX10_line_26 (by first | assumption | exact hM.2.1) rfl ?_
      refine g_iload hX dX10_line_29 rfl ?_
      refine z_iald hX dX10_line_30 (by first | assumption | exact hM.2.1) (by omega) (by omega) (by decide) rfl ?_
      try simp only [Int.toNat_natCast]
      refine g_const hX dX10_line_31 ?_
      refine z_icmp_ne hX dX10_line_33 (by first | assumption | (constructor <;> omega)) (by first | assumption | (constructor <;> omega)) (fun c33 => ?_) (fun c33 => ?_)
      · refine g_const hX dX10_line_40 ?_
        refine o_put hX dX10_line_41 hM.2.1 (by simp [MFL]) rfl rfl (fun M1 hs1 hn1 => ?_)
        have hM := hM.th hs1 hn1
        have ha3 : M1 (b + 3) = some (.inr (0, 12, .inl (fun i => iZ (σ 13 i 0)))) := hM.2.2 3 (by decide)
        have ha4 : M1 (b + 4) = some (.inr (0, 96, .inl (fun i => iZ (σ 14 (i / 8) (i % 8))))) := hM.2.2 4 (by decide)
        have ha5 : M1 (b + 5) = some (.inr (0, 96, .inl (fun i => iZ (σ 15 (i / 8) (i % 8))))) := hM.2.2 5 (by decide)
        
        refine g_aload hX dX10_line_44 rfl rfl ?_
        refine g_get hX dX10_line_45 (by first | assumption | exact hM.2.1) rfl ?_
        refine z_if_le hX dX10_line_48 (by constructor <;> omega) (fun c48 => ?_) (fun c48 => absurd c48 (by omega))
        
        have hrb := hM.1
        have hob := hM.2.1
        have ha3 : M1 (b + 3) = some (.inr (0, 12, .inl (fun i => iZ (σ 13 i 0)))) := hM.2.2 3 (by decide)
        have ha4 : M1 (b + 4) = some (.inr (0, 96, .inl (fun i => iZ (σ 14 (i / 8) (i % 8))))) := hM.2.2 4 (by decide)
        have ha5 : M1 (b + 5) = some (.inr (0, 96, .inl (fun i => iZ (σ 15 (i / 8) (i % 8))))) := hM.2.2 5 (by decide)
        have hpw := pow_r m.toNat (by omega)
        refine g_aload hX dX10_line_53 rfl rfl ?_
        refine g_get hX dX10_line_54 (by first | assumption | exact hM.2.1) rfl ?_
        refine g_const hX dX10_line_57 ?_
        refine g_iload hX dX10_line_59 rfl ?_
        refine z_imul hX dX10_line_60 ?_
        refine g_aload hX dX10_line_61 rfl rfl ?_
        refine g_get hX dX10_line_62 (by first | assumption | exact hM.2.1) rfl ?_
        refine g_iload hX dX10_line_65 rfl ?_
        refine z_iald hX dX10_line_66 (by first | assumption | exact hM.2.1) (by omega) (by omega) (by decide) rfl ?_
        try simp only [Int.toNat_natCast]
        refine z_iadd hX dX10_line_67 ?_
        refine g_iload hX dX10_line_68 rfl ?_
        refine o_iast hX dX10_line_69 ha4 (by omega) (by omega) (by decide) (fun M21 hs21 hn21 => ?_)
        rw [show (8 * (t : Int) + σ 13 t 0).toNat = 8 * t + (σ 13 t 0).toNat by omega] at hs21
        have hM := mx_sto (j := 4) hM 14 (t) ((σ 13 t 0).toNat) (m) (by decide) rfl (by decide) (hs21.trans (congrArg (fun f : Nat → Int32 => (some (.inr (0, 96, .inl f)) : Option hC)) (upd_sup8 σ (σ) 14 (t) ((σ 13 t 0).toNat) (by omega) (m) (rfl)))) hn21
        have hob := (hn21 r (by omega)).trans hob
        have ha3 := (hn21 (b + 3) (by omega)).trans ha3
        have ha5 := (hn21 (b + 5) (by omega)).trans ha5
        refine g_aload hX dX10_line_70 rfl rfl ?_
        refine g_get hX dX10_line_71 (by first | assumption | exact hM.2.1) rfl ?_
        refine g_const hX dX10_line_74 ?_
        refine g_iload hX dX10_line_76 rfl ?_
        refine z_imul hX dX10_line_77 ?_
        refine g_aload hX dX10_line_78 rfl rfl ?_
        refine g_get hX dX10_line_79 (by first | assumption | exact hM.2.1) rfl ?_
        refine g_iload hX dX10_line_82 rfl ?_
        refine z_iald hX dX10_line_83 (by first | assumption | exact hM.2.1) (by omega) (by omega) (by decide) rfl ?_
        try simp only [Int.toNat_natCast]
        refine z_iadd hX dX10_line_84 ?_
        refine g_iload hX dX10_line_85 rfl ?_
        refine o_iast hX dX10_line_86 ha5 (by omega) (by omega) (by decide) (fun M22 hs22 hn22 => ?_)
        rw [show (8 * (t : Int) + σ 13 t 0).toNat = 8 * t + (σ 13 t 0).toNat by omega] at hs22
        have hM := mx_sto (j := 5) hM 15 (t) ((σ 13 t 0).toNat) (s) (by decide) rfl (by decide) (hs22.trans (congrArg (fun f : Nat → Int32 => (some (.inr (0, 96, .inl f)) : Option hC)) (upd_sup8 σ (sup σ 14 t (σ 13 t 0).toNat (m)) 15 (t) ((σ 13 t 0).toNat) (by omega) (s) (by rw [sup_c _ _ (by decide)])))) hn22
        have hob := (hn22 r (by omega)).trans hob
        have ha3 := (hn22 (b + 3) (by omega)).trans ha3
        refine g_aload hX dX10_line_87 rfl rfl ?_
        refine g_get hX dX10_line_88 (by first | assumption | exact hM.2.1) rfl ?_
        refine g_iload hX dX10_line_91 rfl ?_
        refine g_dup2 hX dX10_line_92 rfl rfl ?_
        refine z_iald hX dX10_line_93 (by first | assumption | exact hM.2.1) (by omega) (by omega) (by decide) rfl ?_
        try simp only [Int.toNat_natCast]
        refine g_const hX dX10_line_94 ?_
        refine z_iadd hX dX10_line_95 ?_
        refine o_iast hX dX10_line_96 ha3 (by omega) (by omega) (by decide) (fun M23 hs23 hn23 => ?_)
        simp only [Int.toNat_natCast] at hs23
        have hM := mx_sto (j := 3) hM 13 (t) (0) (σ 13 t 0 + 1) (by decide) rfl (by decide) (hs23.trans (congrArg (fun f : Nat → Int32 => (some (.inr (0, 12, .inl f)) : Option hC)) (upd_sup1 σ (sup (sup σ 14 t (σ 13 t 0).toNat (m)) 15 t (σ 13 t 0).toNat (s)) 13 (t) (σ 13 t 0 + 1) (by rw [sup_c _ _ (by decide), sup_c _ _ (by decide)])))) hn23
        have hob := (hn23 r (by omega)).trans hob
        refine g_aload hX dX10_line_97 rfl rfl ?_
        refine g_get hX dX10_line_98 (by first | assumption | exact hM.2.1) rfl ?_
        refine g_iload hX dX10_line_101 rfl ?_
        refine z_iald (b := σ 13 t 0 + 1) hX dX10_line_102 (hM.2.2 3 (by decide)) (by omega) (by omega) (by decide) (by show iZ (sup _ 13 t 0 (σ 13 t 0 + 1) 13 ((t : Int)).toNat 0) = _; rw [Int.toNat_natCast, sup_s]) ?_
        try simp only [Int.toNat_natCast]
        refine g_iret hX hR dX10_line_103 rfl rfl (by decide) (by decide) ?_
        exact kint (MV hK (c := 0) ((if_neg (fun q => q c6)).trans ((if_neg (fun q => q c18)).trans (if_neg (by rw [Int.toNat_natCast]; exact c33)))) (by rw [Int.toNat_natCast]; exact hM) (by rw [Int.toNat_natCast]; exact SV_liT hV (by omega) (by omega) c18.1 ⟨by omega, by omega⟩)) (by rw [Int.toNat_natCast])
      · refine g_const hX dX10_line_36 ?_
        refine g_goto hX dX10_line_37 ?_
        refine o_put hX dX10_line_41 hM.2.1 (by simp [MFL]) rfl rfl (fun M1 hs1 hn1 => ?_)
        have hM := hM.th hs1 hn1
        have ha3 : M1 (b + 3) = some (.inr (0, 12, .inl (fun i => iZ (σ 13 i 0)))) := hM.2.2 3 (by decide)
        have ha4 : M1 (b + 4) = some (.inr (0, 96, .inl (fun i => iZ (σ 14 (i / 8) (i % 8))))) := hM.2.2 4 (by decide)
        have ha5 : M1 (b + 5) = some (.inr (0, 96, .inl (fun i => iZ (σ 15 (i / 8) (i % 8))))) := hM.2.2 5 (by decide)
        
        refine g_aload hX dX10_line_44 rfl rfl ?_
        refine g_get hX dX10_line_45 (by first | assumption | exact hM.2.1) rfl ?_
        refine z_if_le hX dX10_line_48 (by constructor <;> omega) (fun c48 => absurd c48 (by omega)) (fun c48 => ?_)
        
        refine g_const hX dX10_line_51 ?_
        refine g_iret hX hR dX10_line_52 rfl rfl (by decide) (by decide) ?_
        exact MV hK (c := 3) ((if_neg (fun q => q c6)).trans ((if_neg (fun q => q c18)).trans (if_pos (by rw [Int.toNat_natCast]; exact c33)))) hM hV
    · refine g_const hX dX10_line_21 ?_
      refine g_goto hX dX10_line_22 ?_
      refine o_put hX dX10_line_41 hM.2.1 (by simp [MFL]) rfl rfl (fun M1 hs1 hn1 => ?_)
      have hM := hM.th hs1 hn1
      have ha3 : M1 (b + 3) = some (.inr (0, 12, .inl (fun i => iZ (σ 13 i 0)))) := hM.2.2 3 (by decide)
      have ha4 : M1 (b + 4) = some (.inr (0, 96, .inl (fun i => iZ (σ 14 (i / 8) (i % 8))))) := hM.2.2 4 (by decide)
      have ha5 : M1 (b + 5) = some (.inr (0, 96, .inl (fun i => iZ (σ 15 (i / 8) (i % 8))))) := hM.2.2 5 (by decide)
      
      refine g_aload hX dX10_line_44 rfl rfl ?_
      refine g_get hX dX10_line_45 (by first | assumption | exact hM.2.1) rfl ?_
      refine z_if_le hX dX10_line_48 (by constructor <;> omega) (fun c48 => absurd c48 (by omega)) (fun c48 => ?_)
      
      refine g_const hX dX10_line_51 ?_
      refine g_iret hX hR dX10_line_52 rfl rfl (by decide) (by decide) ?_
      exact MV hK (c := 2) ((if_neg (fun q => q c6)).trans (if_pos c18)) hM hV
  · refine g_const hX dX10_line_9 ?_
    refine g_goto hX dX10_line_10 ?_
    refine o_put hX dX10_line_41 hM.2.1 (by simp [MFL]) rfl rfl (fun M1 hs1 hn1 => ?_)
    have hM := hM.th hs1 hn1
    have ha3 : M1 (b + 3) = some (.inr (0, 12, .inl (fun i => iZ (σ 13 i 0)))) := hM.2.2 3 (by decide)
    have ha4 : M1 (b + 4) = some (.inr (0, 96, .inl (fun i => iZ (σ 14 (i / 8) (i % 8))))) := hM.2.2 4 (by decide)
    have ha5 : M1 (b + 5) = some (.inr (0, 96, .inl (fun i => iZ (σ 15 (i / 8) (i % 8))))) := hM.2.2 5 (by decide)
    
    refine g_aload hX dX10_line_44 rfl rfl ?_
    refine g_get hX dX10_line_45 (by first | assumption | exact hM.2.1) rfl ?_
    refine z_if_le hX dX10_line_48 (by constructor <;> omega) (fun c48 => absurd c48 (by omega)) (fun c48 => ?_)
    
    refine g_const hX dX10_line_51 ?_
    refine g_iret hX hR dX10_line_52 rfl rfl (by decide) (by decide) ?_
    exact MV hK (c := 1) (if_pos c6) hM hV

def sp_X10_phrase : hS := fun as M sz K => ∃ (b r : Nat) (σ : SG) (th : Int) (P Q : Nat → Int) (x m s : Int), as = [.ref r, .int (iZ x), .int (iZ m), .int (iZ s)] ∧ MX b r σ th P Q M ∧ SV σ ∧ inR x ∧ inR m ∧ inR s ∧ MO b r (oc_row 1 24 σ x m s) K
theorem s_X10_phrase {l : Launch} {g : hG} (hst : l.stackTraces = false) : Ctr l g mX10_phrase sp_X10_phrase := by
  refine Ctr.mk9 hst (by decide) ?_ ?_
  · rintro as M sz K ⟨b, r, σ, th, P, Q, x, m, s, rfl, hM, hV, rx, rm, rs, hK⟩
    exact ⟨by simp [mX10_phrase], cat_ok rfl⟩
  rintro X as M sz K hX rfl rfl hR ⟨b, r, σ, th, P, Q, x, m, s, rfl, hM, hV, rx, rm, rs, hK⟩
  show G X 0 [.ref r, .int (iZ x), .int (iZ m), .int (iZ s)] [] M sz 0 0
  obtain ⟨n0, n1, n2, n3, ⟨e0, hn0⟩, ⟨e1, hn1⟩, ⟨e2, hn2⟩, ⟨e3, hn3⟩⟩ := hV.nat
  have ha10 : M (b + 10) = some (.inr (0, 12, .inl (fun i => iZ (σ 24 i 0)))) := hM.2.2 10 (by decide)
  have ha11 : M (b + 11) = some (.inr (0, 96, .inl (fun i => iZ (σ 25 (i / 8) (i % 8))))) := hM.2.2 11 (by decide)
  have ha12 : M (b + 12) = some (.inr (0, 96, .inl (fun i => iZ (σ 26 (i / 8) (i % 8))))) := hM.2.2 12 (by decide)
  refine g_aload hX dX10_phrase_0 rfl rfl ?_
  refine g_aload hX dX10_phrase_1 rfl rfl ?_
  refine g_iload hX dX10_phrase_2 rfl ?_
  refine g_cV1 (c2 := 0) (s2 := 0) hX (s_X10_isTune hst) dX10_phrase_3 (by first | assumption | exact hM.2.1) (by first | exact Nat.le_of_ble_eq_true rfl | simp [cat_rf, Value.category]) ⟨rfl, rfl, by decide, by decide⟩ ?_
  refine ⟨_, _, _, _, _, _, _, rfl, hM, hV, (by first | assumption | (constructor <;> omega)), Kc_i ?_⟩
  refine z_ifb_ne hX dX10_phrase_6 (fun c6 => ?_) (fun c6 => ?_)
  · refine g_iload hX dX10_phrase_13 rfl ?_
    refine g_iload hX dX10_phrase_14 rfl ?_
    refine g_cS2 (c2 := 0) (s2 := 0) hX (s_X10_isLine hst) dX10_phrase_15 (by first | exact Nat.le_of_ble_eq_true rfl | simp [cat_rf, Value.category]) ⟨rfl, rfl, by decide, by decide⟩ ?_
    refine ⟨_, _, rfl, (by assumption), (by assumption), Kc_i ?_⟩
    refine z_ifb_ne hX dX10_phrase_18 (fun c18 => ?_) (fun c18 => ?_)
    · obtain ⟨t, rfl⟩ : ∃ t : Nat, x = (t : Int) := ⟨x.toNat, by omega⟩
      have hT9 := (hV.u t)
      have hRR := hT9.2.2.2.2.1.1
      refine g_aload hX dX10_phrase_25 rfl rfl ?_
      refine g_get hX dX10_phrase_26 (by first | assumption | exact hM.2.1) rfl ?_
      refine g_iload hX dX10_phrase_29 rfl ?_
      refine z_iald hX dX10_phrase_30 (by first | assumption | exact hM.2.1) (by omega) (by omega) (by decide) rfl ?_
      try simp only [Int.toNat_natCast]
      refine g_const hX dX10_phrase_31 ?_
      refine z_icmp_ne hX dX10_phrase_33 (by first | assumption | (constructor <;> omega)) (by first | assumption | (constructor <;> omega)) (fun c33 => ?_) (fun c33 => ?_)
      · refine g_const hX dX10_phrase_40 ?_
        refine o_put hX dX10_phrase_41 hM.2.1 (by simp [MFL]) rfl rfl (fun M1 hs1 hn1 => ?_)
        have hM := hM.th hs1 hn1
        have ha10 : M1 (b + 10) = some (.inr (0, 12, .inl (fun i => iZ (σ 24 i 0)))) := hM.2.2 10 (by decide)
        have ha11 : M1 (b + 11) = some (.inr (0, 96, .inl (fun i => iZ (σ 25 (i / 8) (i % 8))))) := hM.2.2 11 (by decide)
        have ha12 : M1 (b + 12) = some (.inr (0, 96, .inl (fun i => iZ (σ 26 (i / 8) (i % 8))))) := hM.2.2 12 (by decide)
        
        refine g_aload hX dX10_phrase_44 rfl rfl ?_
        refine g_get hX dX10_phrase_45 (by first | assumption | exact hM.2.1) rfl ?_
        refine z_if_le hX dX10_phrase_48 (by constructor <;> omega) (fun c48 => ?_) (fun c48 => absurd c48 (by omega))
        
        have hrb := hM.1
        have hob := hM.2.1
        have ha10 : M1 (b + 10) = some (.inr (0, 12, .inl (fun i => iZ (σ 24 i 0)))) := hM.2.2 10 (by decide)
        have ha11 : M1 (b + 11) = some (.inr (0, 96, .inl (fun i => iZ (σ 25 (i / 8) (i % 8))))) := hM.2.2 11 (by decide)
        have ha12 : M1 (b + 12) = some (.inr (0, 96, .inl (fun i => iZ (σ 26 (i / 8) (i % 8))))) := hM.2.2 12 (by decide)
        have hpw := pow_r m.toNat (by omega)
        refine g_aload hX dX10_phrase_53 rfl rfl ?_
        refine g_get hX dX10_phrase_54 (by first | assumption | exact hM.2.1) rfl ?_
        refine g_const hX dX10_phrase_57 ?_
        refine g_iload hX dX10_phrase_59 rfl ?_
        refine z_imul hX dX10_phrase_60 ?_
        refine g_aload hX dX10_phrase_61 rfl rfl ?_
        refine g_get hX dX10_phrase_62 (by first | assumption | exact hM.2.1) rfl ?_
        refine g_iload hX dX10_phrase_65 rfl ?_
        refine z_iald hX dX10_phrase_66 (by first | assumption | exact hM.2.1) (by omega) (by omega) (by decide) rfl ?_
        try simp only [Int.toNat_natCast]
        refine z_iadd hX dX10_phrase_67 ?_
        refine g_iload hX dX10_phrase_68 rfl ?_
        refine o_iast hX dX10_phrase_69 ha11 (by omega) (by omega) (by decide) (fun M21 hs21 hn21 => ?_)
        rw [show (8 * (t : Int) + σ 24 t 0).toNat = 8 * t + (σ 24 t 0).toNat by omega] at hs21
        have hM := mx_sto (j := 11) hM 25 (t) ((σ 24 t 0).toNat) (m) (by decide) rfl (by decide) (hs21.trans (congrArg (fun f : Nat → Int32 => (some (.inr (0, 96, .inl f)) : Option hC)) (upd_sup8 σ (σ) 25 (t) ((σ 24 t 0).toNat) (by omega) (m) (rfl)))) hn21
        have hob := (hn21 r (by omega)).trans hob
        have ha10 := (hn21 (b + 10) (by omega)).trans ha10
        have ha12 := (hn21 (b + 12) (by omega)).trans ha12
        refine g_aload hX dX10_phrase_70 rfl rfl ?_
        refine g_get hX dX10_phrase_71 (by first | assumption | exact hM.2.1) rfl ?_
        refine g_const hX dX10_phrase_74 ?_
        refine g_iload hX dX10_phrase_76 rfl ?_
        refine z_imul hX dX10_phrase_77 ?_
        refine g_aload hX dX10_phrase_78 rfl rfl ?_
        refine g_get hX dX10_phrase_79 (by first | assumption | exact hM.2.1) rfl ?_
        refine g_iload hX dX10_phrase_82 rfl ?_
        refine z_iald hX dX10_phrase_83 (by first | assumption | exact hM.2.1) (by omega) (by omega) (by decide) rfl ?_
        try simp only [Int.toNat_natCast]
        refine z_iadd hX dX10_phrase_84 ?_
        refine g_iload hX dX10_phrase_85 rfl ?_
        refine o_iast hX dX10_phrase_86 ha12 (by omega) (by omega) (by decide) (fun M22 hs22 hn22 => ?_)
        rw [show (8 * (t : Int) + σ 24 t 0).toNat = 8 * t + (σ 24 t 0).toNat by omega] at hs22
        have hM := mx_sto (j := 12) hM 26 (t) ((σ 24 t 0).toNat) (s) (by decide) rfl (by decide) (hs22.trans (congrArg (fun f : Nat → Int32 => (some (.inr (0, 96, .inl f)) : Option hC)) (upd_sup8 σ (sup σ 25 t (σ 24 t 0).toNat (m)) 26 (t) ((σ 24 t 0).toNat) (by omega) (s) (by rw [sup_c _ _ (by decide)])))) hn22
        have hob := (hn22 r (by omega)).trans hob
        have ha10 := (hn22 (b + 10) (by omega)).trans ha10
        refine g_aload hX dX10_phrase_87 rfl rfl ?_
        refine g_get hX dX10_phrase_88 (by first | assumption | exact hM.2.1) rfl ?_
        refine g_iload hX dX10_phrase_91 rfl ?_
        refine g_dup2 hX dX10_phrase_92 rfl rfl ?_
        refine z_iald hX dX10_phrase_93 (by first | assumption | exact hM.2.1) (by omega) (by omega) (by decide) rfl ?_
        try simp only [Int.toNat_natCast]
        refine g_const hX dX10_phrase_94 ?_
        refine z_iadd hX dX10_phrase_95 ?_
        refine o_iast hX dX10_phrase_96 ha10 (by omega) (by omega) (by decide) (fun M23 hs23 hn23 => ?_)
        simp only [Int.toNat_natCast] at hs23
        have hM := mx_sto (j := 10) hM 24 (t) (0) (σ 24 t 0 + 1) (by decide) rfl (by decide) (hs23.trans (congrArg (fun f : Nat → Int32 => (some (.inr (0, 12, .inl f)) : Option hC)) (upd_sup1 σ (sup (sup σ 25 t (σ 24 t 0).toNat (m)) 26 t (σ 24 t 0).toNat (s)) 24 (t) (σ 24 t 0 + 1) (by rw [sup_c _ _ (by decide), sup_c _ _ (by decide)])))) hn23
        have hob := (hn23 r (by omega)).trans hob
        refine g_aload hX dX10_phrase_97 rfl rfl ?_
        refine g_get hX dX10_phrase_98 (by first | assumption | exact hM.2.1) rfl ?_
        refine g_iload hX dX10_phrase_101 rfl ?_
        refine z_iald (b := σ 24 t 0 + 1) hX dX10_phrase_102 (hM.2.2 10 (by decide)) (by omega) (by omega) (by decide) (by show iZ (sup _ 24 t 0 (σ 24 t 0 + 1) 24 ((t : Int)).toNat 0) = _; rw [Int.toNat_natCast, sup_s]) ?_
        try simp only [Int.toNat_natCast]
        refine g_iret hX hR dX10_phrase_103 rfl rfl (by decide) (by decide) ?_
        exact kint (MV hK (c := 0) ((if_neg (fun q => q c6)).trans ((if_neg (fun q => q c18)).trans (if_neg (by rw [Int.toNat_natCast]; exact c33)))) (by rw [Int.toNat_natCast]; exact hM) (by rw [Int.toNat_natCast]; exact SV_liU hV (by omega) (by omega) c18.1 ⟨by omega, by omega⟩)) (by rw [Int.toNat_natCast])
      · refine g_const hX dX10_phrase_36 ?_
        refine g_goto hX dX10_phrase_37 ?_
        refine o_put hX dX10_phrase_41 hM.2.1 (by simp [MFL]) rfl rfl (fun M1 hs1 hn1 => ?_)
        have hM := hM.th hs1 hn1
        have ha10 : M1 (b + 10) = some (.inr (0, 12, .inl (fun i => iZ (σ 24 i 0)))) := hM.2.2 10 (by decide)
        have ha11 : M1 (b + 11) = some (.inr (0, 96, .inl (fun i => iZ (σ 25 (i / 8) (i % 8))))) := hM.2.2 11 (by decide)
        have ha12 : M1 (b + 12) = some (.inr (0, 96, .inl (fun i => iZ (σ 26 (i / 8) (i % 8))))) := hM.2.2 12 (by decide)
        
        refine g_aload hX dX10_phrase_44 rfl rfl ?_
        refine g_get hX dX10_phrase_45 (by first | assumption | exact hM.2.1) rfl ?_
        refine z_if_le hX dX10_phrase_48 (by constructor <;> omega) (fun c48 => absurd c48 (by omega)) (fun c48 => ?_)
        
        refine g_const hX dX10_phrase_51 ?_
        refine g_iret hX hR dX10_phrase_52 rfl rfl (by decide) (by decide) ?_
        exact MV hK (c := 3) ((if_neg (fun q => q c6)).trans ((if_neg (fun q => q c18)).trans (if_pos (by rw [Int.toNat_natCast]; exact c33)))) hM hV
    · refine g_const hX dX10_phrase_21 ?_
      refine g_goto hX dX10_phrase_22 ?_
      refine o_put hX dX10_phrase_41 hM.2.1 (by simp [MFL]) rfl rfl (fun M1 hs1 hn1 => ?_)
      have hM := hM.th hs1 hn1
      have ha10 : M1 (b + 10) = some (.inr (0, 12, .inl (fun i => iZ (σ 24 i 0)))) := hM.2.2 10 (by decide)
      have ha11 : M1 (b + 11) = some (.inr (0, 96, .inl (fun i => iZ (σ 25 (i / 8) (i % 8))))) := hM.2.2 11 (by decide)
      have ha12 : M1 (b + 12) = some (.inr (0, 96, .inl (fun i => iZ (σ 26 (i / 8) (i % 8))))) := hM.2.2 12 (by decide)
      
      refine g_aload hX dX10_phrase_44 rfl rfl ?_
      refine g_get hX dX10_phrase_45 (by first | assumption | exact hM.2.1) rfl ?_
      refine z_if_le hX dX10_phrase_48 (by constructor <;> omega) (fun c48 => absurd c48 (by omega)) (fun c48 => ?_)
      
      refine g_const hX dX10_phrase_51 ?_
      refine g_iret hX hR dX10_phrase_52 rfl rfl (by decide) (by decide) ?_
      exact MV hK (c := 2) ((if_neg (fun q => q c6)).trans (if_pos c18)) hM hV
  · refine g_const hX dX10_phrase_9 ?_
    refine g_goto hX dX10_phrase_10 ?_
    refine o_put hX dX10_phrase_41 hM.2.1 (by simp [MFL]) rfl rfl (fun M1 hs1 hn1 => ?_)
    have hM := hM.th hs1 hn1
    have ha10 : M1 (b + 10) = some (.inr (0, 12, .inl (fun i => iZ (σ 24 i 0)))) := hM.2.2 10 (by decide)
    have ha11 : M1 (b + 11) = some (.inr (0, 96, .inl (fun i => iZ (σ 25 (i / 8) (i % 8))))) := hM.2.2 11 (by decide)
    have ha12 : M1 (b + 12) = some (.inr (0, 96, .inl (fun i => iZ (σ 26 (i / 8) (i % 8))))) := hM.2.2 12 (by decide)
    
    refine g_aload hX dX10_phrase_44 rfl rfl ?_
    refine g_get hX dX10_phrase_45 (by first | assumption | exact hM.2.1) rfl ?_
    refine z_if_le hX dX10_phrase_48 (by constructor <;> omega) (fun c48 => absurd c48 (by omega)) (fun c48 => ?_)
    
    refine g_const hX dX10_phrase_51 ?_
    refine g_iret hX hR dX10_phrase_52 rfl rfl (by decide) (by decide) ?_
    exact MV hK (c := 1) (if_pos c6) hM hV

def sp_X10_allowText : hS := fun as M sz K => ∃ (b r : Nat) (σ : SG) (th : Int) (P Q : Nat → Int) (x z : Int), as = [.ref r, .int (iZ x), .int (iZ z)] ∧ MX b r σ th P Q M ∧ SV σ ∧ inR x ∧ (z = 0 ∨ z = 1) ∧ MO b r (oc_allow 0 12 σ x z) K
theorem s_X10_allowText {l : Launch} {g : hG} (hst : l.stackTraces = false) : Ctr l g mX10_allowText sp_X10_allowText := by
  refine Ctr.mk9 hst (by decide) ?_ ?_
  · rintro as M sz K ⟨b, r, σ, th, P, Q, x, z, rfl, hM, hV, rx, rz, hK⟩
    exact ⟨by simp [mX10_allowText], cat_ok rfl⟩
  rintro X as M sz K hX rfl rfl hR ⟨b, r, σ, th, P, Q, x, z, rfl, hM, hV, rx, rz, hK⟩
  show G X 0 [.ref r, .int (iZ x), .int (iZ z), U9] [] M sz 0 0
  obtain ⟨n0, n1, n2, n3, ⟨e0, hn0⟩, ⟨e1, hn1⟩, ⟨e2, hn2⟩, ⟨e3, hn3⟩⟩ := hV.nat
  have ha2 : M (b + 2) = some (.inr (1, 12, .inl (fun i => iZ (σ 12 i 0)))) := hM.2.2 2 (by decide)
  refine g_aload hX dX10_allowText_0 rfl rfl ?_
  refine g_aload hX dX10_allowText_1 rfl rfl ?_
  refine g_iload hX dX10_allowText_2 rfl ?_
  refine g_cV1 (c2 := 0) (s2 := 0) hX (s_X10_isText hst) dX10_allowText_3 (by first | assumption | exact hM.2.1) (by first | exact Nat.le_of_ble_eq_true rfl | simp [cat_rf, Value.category]) ⟨rfl, rfl, by decide, by decide⟩ ?_
  refine ⟨_, _, _, _, _, _, _, rfl, hM, hV, (by first | assumption | (constructor <;> omega)), Kc_i ?_⟩
  refine z_ifb_eq hX dX10_allowText_6 (fun c6 => ?_) (fun c6 => ?_)
  · refine g_const hX dX10_allowText_13 ?_
    refine o_put hX dX10_allowText_14 hM.2.1 (by simp [MFL]) rfl rfl (fun M1 hs1 hn1 => ?_)
    have hM := hM.th hs1 hn1
    have ha2 : M1 (b + 2) = some (.inr (1, 12, .inl (fun i => iZ (σ 12 i 0)))) := hM.2.2 2 (by decide)
    
    refine g_aload hX dX10_allowText_17 rfl rfl ?_
    refine g_get hX dX10_allowText_18 (by first | assumption | exact hM.2.1) rfl ?_
    refine z_if_le hX dX10_allowText_21 (by constructor <;> omega) (fun c21 => absurd c21 (by omega)) (fun c21 => ?_)
    
    refine g_const hX dX10_allowText_24 ?_
    refine g_iret hX hR dX10_allowText_25 rfl (by first | rfl | exact nar_b _ | exact nar_01 (by omega)) (by decide) (by decide) ?_
    exact MV hK (c := 1) (if_pos c6) hM hV
  · refine g_const hX dX10_allowText_9 ?_
    refine g_goto hX dX10_allowText_10 ?_
    refine o_put hX dX10_allowText_14 hM.2.1 (by simp [MFL]) rfl rfl (fun M1 hs1 hn1 => ?_)
    have hM := hM.th hs1 hn1
    have ha2 : M1 (b + 2) = some (.inr (1, 12, .inl (fun i => iZ (σ 12 i 0)))) := hM.2.2 2 (by decide)
    
    refine g_aload hX dX10_allowText_17 rfl rfl ?_
    refine g_get hX dX10_allowText_18 (by first | assumption | exact hM.2.1) rfl ?_
    refine z_if_le hX dX10_allowText_21 (by constructor <;> omega) (fun c21 => ?_) (fun c21 => absurd c21 (by omega))
    
    obtain ⟨t, rfl⟩ : ∃ t : Nat, x = (t : Int) := ⟨x.toNat, by omega⟩
    have h01 := (hV.t t).2.2.1
    have hrb := hM.1
    have hob := hM.2.1
    have ha2 : M1 (b + 2) = some (.inr (1, 12, .inl (fun i => iZ (σ 12 i 0)))) := hM.2.2 2 (by decide)
    refine g_aload hX dX10_allowText_26 rfl rfl ?_
    refine g_get hX dX10_allowText_27 (by first | assumption | exact hM.2.1) rfl ?_
    refine g_iload hX dX10_allowText_30 rfl ?_
    refine z_zald hX dX10_allowText_31 (by first | assumption | exact hM.2.1) (by omega) (by omega) (by decide) rfl ?_
    try simp only [Int.toNat_natCast]
    refine g_istore hX dX10_allowText_32 ?_
    dsimp only [List.set]
    refine g_aload hX dX10_allowText_33 rfl rfl ?_
    refine g_get hX dX10_allowText_34 (by first | assumption | exact hM.2.1) rfl ?_
    refine g_iload hX dX10_allowText_37 rfl ?_
    refine g_iload hX dX10_allowText_38 rfl ?_
    refine o_zast hX dX10_allowText_39 ha2 (by omega) (by omega) (by decide) rz (fun M21 hs21 hn21 => ?_)
    simp only [Int.toNat_natCast] at hs21
    have hM := mx_sto (j := 2) hM 12 (t) (0) (z) (by decide) rfl (by decide) (hs21.trans (congrArg (fun f : Nat → Int32 => (some (.inr (1, 12, .inl f)) : Option hC)) (upd_sup1 σ (σ) 12 (t) (z) (rfl)))) hn21
    have hob := (hn21 r (by omega)).trans hob
    refine g_iload hX dX10_allowText_40 rfl ?_
    refine g_iret hX hR dX10_allowText_41 rfl (by first | rfl | exact nar_b _ | exact nar_01 (by omega)) (by decide) (by decide) ?_
    exact kint (MV hK (c := 0) (if_neg (fun q => q c6)) (by rw [Int.toNat_natCast]; exact hM) (by rw [Int.toNat_natCast]; exact SV_alT hV (by omega) rz)) (by rw [Int.toNat_natCast])

def sp_X10_allowTune : hS := fun as M sz K => ∃ (b r : Nat) (σ : SG) (th : Int) (P Q : Nat → Int) (x z : Int), as = [.ref r, .int (iZ x), .int (iZ z)] ∧ MX b r σ th P Q M ∧ SV σ ∧ inR x ∧ (z = 0 ∨ z = 1) ∧ MO b r (oc_allow 1 23 σ x z) K
theorem s_X10_allowTune {l : Launch} {g : hG} (hst : l.stackTraces = false) : Ctr l g mX10_allowTune sp_X10_allowTune := by
  refine Ctr.mk9 hst (by decide) ?_ ?_
  · rintro as M sz K ⟨b, r, σ, th, P, Q, x, z, rfl, hM, hV, rx, rz, hK⟩
    exact ⟨by simp [mX10_allowTune], cat_ok rfl⟩
  rintro X as M sz K hX rfl rfl hR ⟨b, r, σ, th, P, Q, x, z, rfl, hM, hV, rx, rz, hK⟩
  show G X 0 [.ref r, .int (iZ x), .int (iZ z), U9] [] M sz 0 0
  obtain ⟨n0, n1, n2, n3, ⟨e0, hn0⟩, ⟨e1, hn1⟩, ⟨e2, hn2⟩, ⟨e3, hn3⟩⟩ := hV.nat
  have ha7 : M (b + 7) = some (.inr (1, 12, .inl (fun i => iZ (σ 23 i 0)))) := hM.2.2 7 (by decide)
  refine g_aload hX dX10_allowTune_0 rfl rfl ?_
  refine g_aload hX dX10_allowTune_1 rfl rfl ?_
  refine g_iload hX dX10_allowTune_2 rfl ?_
  refine g_cV1 (c2 := 0) (s2 := 0) hX (s_X10_isTune hst) dX10_allowTune_3 (by first | assumption | exact hM.2.1) (by first | exact Nat.le_of_ble_eq_true rfl | simp [cat_rf, Value.category]) ⟨rfl, rfl, by decide, by decide⟩ ?_
  refine ⟨_, _, _, _, _, _, _, rfl, hM, hV, (by first | assumption | (constructor <;> omega)), Kc_i ?_⟩
  refine z_ifb_eq hX dX10_allowTune_6 (fun c6 => ?_) (fun c6 => ?_)
  · refine g_const hX dX10_allowTune_13 ?_
    refine o_put hX dX10_allowTune_14 hM.2.1 (by simp [MFL]) rfl rfl (fun M1 hs1 hn1 => ?_)
    have hM := hM.th hs1 hn1
    have ha7 : M1 (b + 7) = some (.inr (1, 12, .inl (fun i => iZ (σ 23 i 0)))) := hM.2.2 7 (by decide)
    
    refine g_aload hX dX10_allowTune_17 rfl rfl ?_
    refine g_get hX dX10_allowTune_18 (by first | assumption | exact hM.2.1) rfl ?_
    refine z_if_le hX dX10_allowTune_21 (by constructor <;> omega) (fun c21 => absurd c21 (by omega)) (fun c21 => ?_)
    
    refine g_const hX dX10_allowTune_24 ?_
    refine g_iret hX hR dX10_allowTune_25 rfl (by first | rfl | exact nar_b _ | exact nar_01 (by omega)) (by decide) (by decide) ?_
    exact MV hK (c := 1) (if_pos c6) hM hV
  · refine g_const hX dX10_allowTune_9 ?_
    refine g_goto hX dX10_allowTune_10 ?_
    refine o_put hX dX10_allowTune_14 hM.2.1 (by simp [MFL]) rfl rfl (fun M1 hs1 hn1 => ?_)
    have hM := hM.th hs1 hn1
    have ha7 : M1 (b + 7) = some (.inr (1, 12, .inl (fun i => iZ (σ 23 i 0)))) := hM.2.2 7 (by decide)
    
    refine g_aload hX dX10_allowTune_17 rfl rfl ?_
    refine g_get hX dX10_allowTune_18 (by first | assumption | exact hM.2.1) rfl ?_
    refine z_if_le hX dX10_allowTune_21 (by constructor <;> omega) (fun c21 => ?_) (fun c21 => absurd c21 (by omega))
    
    obtain ⟨t, rfl⟩ : ∃ t : Nat, x = (t : Int) := ⟨x.toNat, by omega⟩
    have h01 := (hV.u t).2.2.2.1
    have hrb := hM.1
    have hob := hM.2.1
    have ha7 : M1 (b + 7) = some (.inr (1, 12, .inl (fun i => iZ (σ 23 i 0)))) := hM.2.2 7 (by decide)
    refine g_aload hX dX10_allowTune_26 rfl rfl ?_
    refine g_get hX dX10_allowTune_27 (by first | assumption | exact hM.2.1) rfl ?_
    refine g_iload hX dX10_allowTune_30 rfl ?_
    refine z_zald hX dX10_allowTune_31 (by first | assumption | exact hM.2.1) (by omega) (by omega) (by decide) rfl ?_
    try simp only [Int.toNat_natCast]
    refine g_istore hX dX10_allowTune_32 ?_
    dsimp only [List.set]
    refine g_aload hX dX10_allowTune_33 rfl rfl ?_
    refine g_get hX dX10_allowTune_34 (by first | assumption | exact hM.2.1) rfl ?_
    refine g_iload hX dX10_allowTune_37 rfl ?_
    refine g_iload hX dX10_allowTune_38 rfl ?_
    refine o_zast hX dX10_allowTune_39 ha7 (by omega) (by omega) (by decide) rz (fun M21 hs21 hn21 => ?_)
    simp only [Int.toNat_natCast] at hs21
    have hM := mx_sto (j := 7) hM 23 (t) (0) (z) (by decide) rfl (by decide) (hs21.trans (congrArg (fun f : Nat → Int32 => (some (.inr (1, 12, .inl f)) : Option hC)) (upd_sup1 σ (σ) 23 (t) (z) (rfl)))) hn21
    have hob := (hn21 r (by omega)).trans hob
    refine g_iload hX dX10_allowTune_40 rfl ?_
    refine g_iret hX hR dX10_allowTune_41 rfl (by first | rfl | exact nar_b _ | exact nar_01 (by omega)) (by decide) (by decide) ?_
    exact kint (MV hK (c := 0) (if_neg (fun q => q c6)) (by rw [Int.toNat_natCast]; exact hM) (by rw [Int.toNat_natCast]; exact SV_alU hV (by omega) rz)) (by rw [Int.toNat_natCast])

def sp_X10_sundays : hS := fun as M sz K => ∃ (b r : Nat) (σ : SG) (th : Int) (P Q : Nat → Int) (x : Int), as = [.ref r, .int (iZ x)] ∧ MX b r σ th P Q M ∧ SV σ ∧ inR x ∧ MO b r (oc_sundays σ x) K
theorem s_X10_sundays {l : Launch} {g : hG} (hst : l.stackTraces = false) : Ctr l g mX10_sundays sp_X10_sundays := by
  refine Ctr.mk9 hst (by decide) ?_ ?_
  · rintro as M sz K ⟨b, r, σ, th, P, Q, x, rfl, hM, hV, rx, hK⟩
    exact ⟨by simp [mX10_sundays], cat_ok rfl⟩
  rintro X as M sz K hX rfl rfl hR ⟨b, r, σ, th, P, Q, x, rfl, hM, hV, rx, hK⟩
  show G X 0 [.ref r, .int (iZ x), U9] [] M sz 0 0
  obtain ⟨n0, n1, n2, n3, ⟨e0, hn0⟩, ⟨e1, hn1⟩, ⟨e2, hn2⟩, ⟨e3, hn3⟩⟩ := hV.nat
  have hsn := hV.n.2.2.2.2
  refine g_aload hX dX10_sundays_0 rfl rfl ?_
  refine g_iload hX dX10_sundays_1 rfl ?_
  refine g_const hX dX10_sundays_2 ?_
  refine g_const hX dX10_sundays_3 ?_
  refine g_cS3 (c2 := 0) (s2 := 0) hX (s_X10_isIn hst) dX10_sundays_5 (by first | exact Nat.le_of_ble_eq_true rfl | simp [cat_rf, Value.category]) ⟨rfl, rfl, by decide, by decide⟩ ?_
  refine ⟨_, _, _, rfl, (by first | assumption | (constructor <;> omega)), (by first | assumption | (constructor <;> omega)), (by first | assumption | (constructor <;> omega)), Kc_i ?_⟩
  refine z_ifb_eq hX dX10_sundays_8 (fun c8 => ?_) (fun c8 => ?_)
  · refine g_const hX dX10_sundays_15 ?_
    refine o_put hX dX10_sundays_16 hM.2.1 (by simp [MFL]) rfl rfl (fun M1 hs1 hn1 => ?_)
    have hM := hM.th hs1 hn1
    
    refine g_aload hX dX10_sundays_19 rfl rfl ?_
    refine g_get hX dX10_sundays_20 (by first | assumption | exact hM.2.1) rfl ?_
    refine z_if_le hX dX10_sundays_23 (by constructor <;> omega) (fun c23 => absurd c23 (by omega)) (fun c23 => ?_)
    
    refine g_const hX dX10_sundays_26 ?_
    refine g_iret hX hR dX10_sundays_27 rfl rfl (by decide) (by decide) ?_
    exact MV hK (c := 1) (if_pos c8) hM hV
  · refine g_const hX dX10_sundays_11 ?_
    refine g_goto hX dX10_sundays_12 ?_
    refine o_put hX dX10_sundays_16 hM.2.1 (by simp [MFL]) rfl rfl (fun M1 hs1 hn1 => ?_)
    have hM := hM.th hs1 hn1
    
    refine g_aload hX dX10_sundays_19 rfl rfl ?_
    refine g_get hX dX10_sundays_20 (by first | assumption | exact hM.2.1) rfl ?_
    refine z_if_le hX dX10_sundays_23 (by constructor <;> omega) (fun c23 => ?_) (fun c23 => absurd c23 (by omega))
    
    refine g_aload hX dX10_sundays_28 rfl rfl ?_
    refine g_get hX dX10_sundays_29 (by first | assumption | exact hM.2.1) rfl ?_
    refine g_istore hX dX10_sundays_32 ?_
    dsimp only [List.set]
    refine g_aload hX dX10_sundays_33 rfl rfl ?_
    refine g_iload hX dX10_sundays_34 rfl ?_
    refine o_put hX dX10_sundays_35 hM.2.1 (by simp [MFL]) rfl rfl (fun M21 hs21 hn21 => ?_)
    have hM := mx_cnt hM 4 (x) (by decide) (hs21.trans (congrArg (fun f : List Value => (some (.inl (10, f)) : Option hC)) mfl_s4)) hn21
    refine g_iload hX dX10_sundays_38 rfl ?_
    refine g_iret hX hR dX10_sundays_39 rfl rfl (by decide) (by decide) ?_
    exact MV hK (c := 0) (if_neg (fun q => q c8)) hM (SV_sun hV c8)

theorem rd_c {σ : SG} (hV : SV σ) {x : Int} : (¬ (x = -2 ∨ inN σ 2 x) ∧ rdF σ x = -100) ∨ ((x = -2 ∨ inN σ 2 x) ∧ rdF σ x = 3 * (rdI x : Int) ∧ ((rdI x : Int) < σ 2 0 0 ∨ rdI x = 20)) := by
  unfold rdF rdI
  by_cases h1 : x = -2
  · rw [if_pos h1, if_pos h1]
    exact Or.inr ⟨Or.inl h1, by decide, Or.inr rfl⟩
  · rw [if_neg h1, if_neg h1]
    by_cases h2 : inN σ 2 x
    · rw [if_pos h2]
      exact Or.inr ⟨Or.inr h2, by have := h2.1; omega, Or.inl (by have := h2.1; have := h2.2; omega)⟩
    · rw [if_neg h2]
      exact Or.inl ⟨fun h => h.elim h1 h2, rfl⟩

def sp_X10_reading : hS := fun as M sz K => ∃ (b r : Nat) (σ : SG) (th : Int) (P Q : Nat → Int) (x c w : Int), as = [.ref r, .int (iZ x), .int (iZ c), .int (iZ w)] ∧ MX b r σ th P Q M ∧ SV σ ∧ inR x ∧ inR c ∧ inR w ∧ MO b r (oc_reading σ x c w) K
theorem s_X10_reading {l : Launch} {g : hG} (hst : l.stackTraces = false) : Ctr l g mX10_reading sp_X10_reading := by
  refine Ctr.mk9 hst (by decide) ?_ ?_
  · rintro as M sz K ⟨b, r, σ, th, P, Q, x, c, w, rfl, hM, hV, rx, rc, rw, hK⟩
    exact ⟨by simp [mX10_reading], cat_ok rfl⟩
  rintro X as M sz K hX rfl rfl hR ⟨b, r, σ, th, P, Q, x, c, w, rfl, hM, hV, rx, rc, rw, hK⟩
  show G X 0 [.ref r, .int (iZ x), .int (iZ c), .int (iZ w), U9, U9] [] M sz 0 0
  obtain ⟨n0, n1, n2, n3, ⟨e0, hn0⟩, ⟨e1, hn1⟩, ⟨e2, hn2⟩, ⟨e3, hn3⟩⟩ := hV.nat
  have ha18 : M (b + 18) = some (.inr (0, 63, .inl (fun i => iZ (σ 35 (i / 3) (i % 3))))) := hM.2.2 18 (by decide)
  refine g_aload hX dX10_reading_0 rfl rfl ?_
  refine g_iload hX dX10_reading_1 rfl ?_
  refine g_cV1 (c2 := 0) (s2 := 0) hX (s_X10_readingsFrom hst) dX10_reading_2 (by first | assumption | exact hM.2.1) (by first | exact Nat.le_of_ble_eq_true rfl | simp [cat_rf, Value.category]) ⟨rfl, rfl, by decide, by decide⟩ ?_
  refine ⟨_, _, _, _, _, _, _, rfl, hM, hV, rx, Kc_i ?_⟩
  rcases rd_c hV (x := x) with ⟨hrd1, hrd2⟩ | ⟨hrd1, hrd2, hrd3⟩
  · refine g_istore hX dX10_reading_5 ?_
    dsimp only [List.set]
    refine g_aload hX dX10_reading_7 rfl rfl ?_
    refine g_iload hX dX10_reading_8 rfl ?_
    refine g_const hX dX10_reading_10 ?_
    refine z_icmp_ne hX dX10_reading_12 (by first | assumption | (constructor <;> omega)) (by first | assumption | (constructor <;> omega)) (fun c12 => ?_) (fun c12 => ?_)
    · exfalso; omega
    · refine g_const hX dX10_reading_15 ?_
      refine g_goto hX dX10_reading_16 ?_
      refine o_put hX dX10_reading_49 hM.2.1 (by simp [MFL]) rfl rfl (fun M1 hs1 hn1 => ?_)
      have hM := hM.th hs1 hn1
      have ha18 : M1 (b + 18) = some (.inr (0, 63, .inl (fun i => iZ (σ 35 (i / 3) (i % 3))))) := hM.2.2 18 (by decide)
      
      refine g_aload hX dX10_reading_52 rfl rfl ?_
      refine g_get hX dX10_reading_53 (by first | assumption | exact hM.2.1) rfl ?_
      refine z_if_le hX dX10_reading_56 (by constructor <;> omega) (fun c56 => absurd c56 (by omega)) (fun c56 => ?_)
      
      refine g_const hX dX10_reading_59 ?_
      refine g_iret hX hR dX10_reading_60 rfl rfl (by decide) (by decide) ?_
      exact MV hK (c := 1) (if_pos hrd1) hM hV
  · refine g_istore hX dX10_reading_5 ?_
    dsimp only [List.set]
    refine g_aload hX dX10_reading_7 rfl rfl ?_
    refine g_iload hX dX10_reading_8 rfl ?_
    refine g_const hX dX10_reading_10 ?_
    refine z_icmp_ne hX dX10_reading_12 (by first | assumption | (constructor <;> omega)) (by first | assumption | (constructor <;> omega)) (fun c12 => ?_) (fun c12 => ?_)
    · refine g_iload hX dX10_reading_19 rfl ?_
      refine g_const hX dX10_reading_20 ?_
      refine g_const hX dX10_reading_21 ?_
      refine g_cS3 (c2 := 0) (s2 := 0) hX (s_X10_isIn hst) dX10_reading_22 (by first | exact Nat.le_of_ble_eq_true rfl | simp [cat_rf, Value.category]) ⟨rfl, rfl, by decide, by decide⟩ ?_
      refine ⟨_, _, _, rfl, (by first | assumption | (constructor <;> omega)), (by first | assumption | (constructor <;> omega)), (by first | assumption | (constructor <;> omega)), Kc_i ?_⟩
      refine z_ifb_eq hX dX10_reading_25 (fun c25 => ?_) (fun c25 => ?_)
      · refine g_const hX dX10_reading_44 ?_
        refine g_goto hX dX10_reading_45 ?_
        refine o_put hX dX10_reading_49 hM.2.1 (by simp [MFL]) rfl rfl (fun M1 hs1 hn1 => ?_)
        have hM := hM.th hs1 hn1
        have ha18 : M1 (b + 18) = some (.inr (0, 63, .inl (fun i => iZ (σ 35 (i / 3) (i % 3))))) := hM.2.2 18 (by decide)
        
        refine g_aload hX dX10_reading_52 rfl rfl ?_
        refine g_get hX dX10_reading_53 (by first | assumption | exact hM.2.1) rfl ?_
        refine z_if_le hX dX10_reading_56 (by constructor <;> omega) (fun c56 => absurd c56 (by omega)) (fun c56 => ?_)
        
        refine g_const hX dX10_reading_59 ?_
        refine g_iret hX hR dX10_reading_60 rfl rfl (by decide) (by decide) ?_
        exact MV hK (c := 2) ((if_neg (fun q => q hrd1)).trans (if_pos (fun q => c25 q.1))) hM hV
      · refine g_iload hX dX10_reading_28 rfl ?_
        refine g_const hX dX10_reading_29 ?_
        refine z_icmp_eq hX dX10_reading_31 (by first | assumption | (constructor <;> omega)) (by first | assumption | (constructor <;> omega)) (fun c31 => ?_) (fun c31 => ?_)
        · refine g_const hX dX10_reading_48 ?_
          refine o_put hX dX10_reading_49 hM.2.1 (by simp [MFL]) rfl rfl (fun M1 hs1 hn1 => ?_)
          have hM := hM.th hs1 hn1
          have ha18 : M1 (b + 18) = some (.inr (0, 63, .inl (fun i => iZ (σ 35 (i / 3) (i % 3))))) := hM.2.2 18 (by decide)
          
          refine g_aload hX dX10_reading_52 rfl rfl ?_
          refine g_get hX dX10_reading_53 (by first | assumption | exact hM.2.1) rfl ?_
          refine z_if_le hX dX10_reading_56 (by constructor <;> omega) (fun c56 => ?_) (fun c56 => absurd c56 (by omega))
          
          have hrb := hM.1
          have hob := hM.2.1
          have ha18 : M1 (b + 18) = some (.inr (0, 63, .inl (fun i => iZ (σ 35 (i / 3) (i % 3))))) := hM.2.2 18 (by decide)
          have h35 := hV.f.2.1 (rdI x) c.toNat
          refine g_aload hX dX10_reading_61 rfl rfl ?_
          refine g_get hX dX10_reading_62 (by first | assumption | exact hM.2.1) rfl ?_
          refine g_iload hX dX10_reading_65 rfl ?_
          refine g_iload hX dX10_reading_67 rfl ?_
          refine z_iadd hX dX10_reading_68 ?_
          refine z_iald (b := σ 35 (rdI x) c.toNat) hX dX10_reading_69 ha18 (by omega) (by omega) (by decide) (by show iZ (σ 35 ((rdF σ x + c).toNat / 3) ((rdF σ x + c).toNat % 3)) = iZ (σ 35 (rdI x) c.toNat); rw [show (rdF σ x + c).toNat / 3 = rdI x by omega, show (rdF σ x + c).toNat % 3 = c.toNat by omega]) ?_
          try simp only [Int.toNat_natCast]
          refine g_istore hX dX10_reading_70 ?_
          dsimp only [List.set]
          refine g_aload hX dX10_reading_72 rfl rfl ?_
          refine g_get hX dX10_reading_73 (by first | assumption | exact hM.2.1) rfl ?_
          refine g_iload hX dX10_reading_76 rfl ?_
          refine g_iload hX dX10_reading_78 rfl ?_
          refine z_iadd hX dX10_reading_79 ?_
          refine g_iload hX dX10_reading_80 rfl ?_
          refine o_iast hX dX10_reading_81 ha18 (by omega) (by omega) (by decide) (fun M21 hs21 hn21 => ?_)
          rw [show (rdF σ x + c).toNat = 3 * rdI x + c.toNat by omega] at hs21
          have hM := mx_sto (j := 18) hM 35 (rdI x) (c.toNat) (w) (by decide) rfl (by decide) (hs21.trans (congrArg (fun f : Nat → Int32 => (some (.inr (0, 63, .inl f)) : Option hC)) (upd_sup3 σ (σ) 35 (rdI x) (c.toNat) (by omega) (w) (rfl)))) hn21
          have hob := (hn21 r (by omega)).trans hob
          refine g_iload hX dX10_reading_82 rfl ?_
          refine g_iret hX hR dX10_reading_84 rfl rfl (by decide) (by decide) ?_
          exact MV hK (c := 0) ((if_neg (fun q => q hrd1)).trans (if_neg (fun q => q ⟨c25, Or.inl c31⟩))) hM (SV_rd hV hrd3 (Or.inl c31))
        · refine g_iload hX dX10_reading_34 rfl ?_
          refine g_const hX dX10_reading_35 ?_
          refine g_const hX dX10_reading_36 ?_
          refine g_cS3 (c2 := 0) (s2 := 0) hX (s_X10_isIn hst) dX10_reading_38 (by first | exact Nat.le_of_ble_eq_true rfl | simp [cat_rf, Value.category]) ⟨rfl, rfl, by decide, by decide⟩ ?_
          refine ⟨_, _, _, rfl, (by first | assumption | (constructor <;> omega)), (by first | assumption | (constructor <;> omega)), (by first | assumption | (constructor <;> omega)), Kc_i ?_⟩
          refine z_ifb_ne hX dX10_reading_41 (fun c41 => ?_) (fun c41 => ?_)
          · refine g_const hX dX10_reading_48 ?_
            refine o_put hX dX10_reading_49 hM.2.1 (by simp [MFL]) rfl rfl (fun M1 hs1 hn1 => ?_)
            have hM := hM.th hs1 hn1
            have ha18 : M1 (b + 18) = some (.inr (0, 63, .inl (fun i => iZ (σ 35 (i / 3) (i % 3))))) := hM.2.2 18 (by decide)
            
            refine g_aload hX dX10_reading_52 rfl rfl ?_
            refine g_get hX dX10_reading_53 (by first | assumption | exact hM.2.1) rfl ?_
            refine z_if_le hX dX10_reading_56 (by constructor <;> omega) (fun c56 => ?_) (fun c56 => absurd c56 (by omega))
            
            have hrb := hM.1
            have hob := hM.2.1
            have ha18 : M1 (b + 18) = some (.inr (0, 63, .inl (fun i => iZ (σ 35 (i / 3) (i % 3))))) := hM.2.2 18 (by decide)
            have h35 := hV.f.2.1 (rdI x) c.toNat
            refine g_aload hX dX10_reading_61 rfl rfl ?_
            refine g_get hX dX10_reading_62 (by first | assumption | exact hM.2.1) rfl ?_
            refine g_iload hX dX10_reading_65 rfl ?_
            refine g_iload hX dX10_reading_67 rfl ?_
            refine z_iadd hX dX10_reading_68 ?_
            refine z_iald (b := σ 35 (rdI x) c.toNat) hX dX10_reading_69 ha18 (by omega) (by omega) (by decide) (by show iZ (σ 35 ((rdF σ x + c).toNat / 3) ((rdF σ x + c).toNat % 3)) = iZ (σ 35 (rdI x) c.toNat); rw [show (rdF σ x + c).toNat / 3 = rdI x by omega, show (rdF σ x + c).toNat % 3 = c.toNat by omega]) ?_
            try simp only [Int.toNat_natCast]
            refine g_istore hX dX10_reading_70 ?_
            dsimp only [List.set]
            refine g_aload hX dX10_reading_72 rfl rfl ?_
            refine g_get hX dX10_reading_73 (by first | assumption | exact hM.2.1) rfl ?_
            refine g_iload hX dX10_reading_76 rfl ?_
            refine g_iload hX dX10_reading_78 rfl ?_
            refine z_iadd hX dX10_reading_79 ?_
            refine g_iload hX dX10_reading_80 rfl ?_
            refine o_iast hX dX10_reading_81 ha18 (by omega) (by omega) (by decide) (fun M21 hs21 hn21 => ?_)
            rw [show (rdF σ x + c).toNat = 3 * rdI x + c.toNat by omega] at hs21
            have hM := mx_sto (j := 18) hM 35 (rdI x) (c.toNat) (w) (by decide) rfl (by decide) (hs21.trans (congrArg (fun f : Nat → Int32 => (some (.inr (0, 63, .inl f)) : Option hC)) (upd_sup3 σ (σ) 35 (rdI x) (c.toNat) (by omega) (w) (rfl)))) hn21
            have hob := (hn21 r (by omega)).trans hob
            refine g_iload hX dX10_reading_82 rfl ?_
            refine g_iret hX hR dX10_reading_84 rfl rfl (by decide) (by decide) ?_
            exact MV hK (c := 0) ((if_neg (fun q => q hrd1)).trans (if_neg (fun q => q ⟨c25, Or.inr c41⟩))) hM (SV_rd hV hrd3 (Or.inr c41))
          · refine g_const hX dX10_reading_44 ?_
            refine g_goto hX dX10_reading_45 ?_
            refine o_put hX dX10_reading_49 hM.2.1 (by simp [MFL]) rfl rfl (fun M1 hs1 hn1 => ?_)
            have hM := hM.th hs1 hn1
            have ha18 : M1 (b + 18) = some (.inr (0, 63, .inl (fun i => iZ (σ 35 (i / 3) (i % 3))))) := hM.2.2 18 (by decide)
            
            refine g_aload hX dX10_reading_52 rfl rfl ?_
            refine g_get hX dX10_reading_53 (by first | assumption | exact hM.2.1) rfl ?_
            refine z_if_le hX dX10_reading_56 (by constructor <;> omega) (fun c56 => absurd c56 (by omega)) (fun c56 => ?_)
            
            refine g_const hX dX10_reading_59 ?_
            refine g_iret hX hR dX10_reading_60 rfl rfl (by decide) (by decide) ?_
            exact MV hK (c := 2) ((if_neg (fun q => q hrd1)).trans (if_pos (fun q => q.2.elim (fun q => c31 q) (fun q => c41 q)))) hM hV
    · exfalso; omega

def sp_X10_adds : hS := fun as M sz K => ∃ (b r : Nat) (σ : SG) (th : Int) (P Q : Nat → Int) (rk po mv mo dy : Int), as = [.ref r, .int (iZ rk), .int (iZ po), .int (iZ mv), .int (iZ mo), .int (iZ dy)] ∧ MX b r σ th P Q M ∧ SV σ ∧ σ 2 0 0 ≠ 20 ∧ (po = 0 ∨ po = 1) ∧ (mv = 0 ∨ mv = 1) ∧ (∀ M' : hM, MX b r (adF σ rk po mo dy mv) th P Q M' → K (.inl (some (.int (iZ (σ 2 0 0))))) M' sz)
theorem s_X10_adds {l : Launch} {g : hG} (hst : l.stackTraces = false) : Ctr l g mX10_adds sp_X10_adds := by
  refine Ctr.mk9 hst (by decide) ?_ ?_
  · rintro as M sz K ⟨b, r, σ, th, P, Q, rk, po, mv, mo, dy, rfl, hM, hV, hn20, hpo, hmv, hK⟩
    exact ⟨by simp [mX10_adds], cat_ok rfl⟩
  rintro X as M sz K hX rfl rfl hR ⟨b, r, σ, th, P, Q, rk, po, mv, mo, dy, rfl, hM, hV, hn20, hpo, hmv, hK⟩
  show G X 0 [.ref r, .int (iZ rk), .int (iZ po), .int (iZ mv), .int (iZ mo), .int (iZ dy)] [] M sz 0 0
  obtain ⟨n0, n1, n2, n3, ⟨e0, hn0⟩, ⟨e1, hn1⟩, ⟨e2, hn2⟩, ⟨e3, hn3⟩⟩ := hV.nat
  have ha13 : M (b + 13) = some (.inr (0, 20, .inl (fun i => iZ (σ 30 i 0)))) := hM.2.2 13 (by decide)
  have ha14 : M (b + 14) = some (.inr (1, 20, .inl (fun i => iZ (σ 31 i 0)))) := hM.2.2 14 (by decide)
  have ha15 : M (b + 15) = some (.inr (1, 20, .inl (fun i => iZ (σ 34 i 0)))) := hM.2.2 15 (by decide)
  have ha16 : M (b + 16) = some (.inr (0, 20, .inl (fun i => iZ (σ 32 i 0)))) := hM.2.2 16 (by decide)
  have ha17 : M (b + 17) = some (.inr (0, 20, .inl (fun i => iZ (σ 33 i 0)))) := hM.2.2 17 (by decide)
  have hrb := hM.1
  have hob := hM.2.1
  have ha13 : M (b + 13) = some (.inr (0, 20, .inl (fun i => iZ (σ 30 i 0)))) := hM.2.2 13 (by decide)
  have ha14 : M (b + 14) = some (.inr (1, 20, .inl (fun i => iZ (σ 31 i 0)))) := hM.2.2 14 (by decide)
  have ha15 : M (b + 15) = some (.inr (1, 20, .inl (fun i => iZ (σ 34 i 0)))) := hM.2.2 15 (by decide)
  have ha16 : M (b + 16) = some (.inr (0, 20, .inl (fun i => iZ (σ 32 i 0)))) := hM.2.2 16 (by decide)
  have ha17 : M (b + 17) = some (.inr (0, 20, .inl (fun i => iZ (σ 33 i 0)))) := hM.2.2 17 (by decide)
  refine g_aload hX dX10_adds_0 rfl rfl ?_
  refine g_get hX dX10_adds_1 (by first | assumption | exact hM.2.1) rfl ?_
  refine g_aload hX dX10_adds_4 rfl rfl ?_
  refine g_get hX dX10_adds_5 (by first | assumption | exact hM.2.1) rfl ?_
  refine g_iload hX dX10_adds_8 rfl ?_
  refine o_iast hX dX10_adds_9 ha13 (by omega) (by omega) (by decide) (fun M21 hs21 hn21 => ?_)
  have hM := mx_sto (j := 13) hM 30 ((σ 2 0 0).toNat) (0) (rk) (by decide) rfl (by decide) (hs21.trans (congrArg (fun f : Nat → Int32 => (some (.inr (0, 20, .inl f)) : Option hC)) (upd_sup1 σ (σ) 30 ((σ 2 0 0).toNat) (rk) (rfl)))) hn21
  have hob := (hn21 r (by omega)).trans hob
  have ha14 := (hn21 (b + 14) (by omega)).trans ha14
  have ha15 := (hn21 (b + 15) (by omega)).trans ha15
  have ha16 := (hn21 (b + 16) (by omega)).trans ha16
  have ha17 := (hn21 (b + 17) (by omega)).trans ha17
  refine g_aload hX dX10_adds_10 rfl rfl ?_
  refine g_get hX dX10_adds_11 (by first | assumption | exact hM.2.1) rfl ?_
  refine g_aload hX dX10_adds_14 rfl rfl ?_
  refine g_get hX dX10_adds_15 (by first | assumption | exact hM.2.1) rfl ?_
  refine g_iload hX dX10_adds_18 rfl ?_
  refine o_zast hX dX10_adds_19 ha14 (by omega) (by omega) (by decide) hpo (fun M22 hs22 hn22 => ?_)
  have hM := mx_sto (j := 14) hM 31 ((σ 2 0 0).toNat) (0) (po) (by decide) rfl (by decide) (hs22.trans (congrArg (fun f : Nat → Int32 => (some (.inr (1, 20, .inl f)) : Option hC)) (upd_sup1 σ (sup σ 30 (σ 2 0 0).toNat 0 (rk)) 31 ((σ 2 0 0).toNat) (po) (by rw [sup_c _ _ (by decide)])))) hn22
  have hob := (hn22 r (by omega)).trans hob
  have ha15 := (hn22 (b + 15) (by omega)).trans ha15
  have ha16 := (hn22 (b + 16) (by omega)).trans ha16
  have ha17 := (hn22 (b + 17) (by omega)).trans ha17
  refine g_aload hX dX10_adds_20 rfl rfl ?_
  refine g_get hX dX10_adds_21 (by first | assumption | exact hM.2.1) rfl ?_
  refine g_aload hX dX10_adds_24 rfl rfl ?_
  refine g_get hX dX10_adds_25 (by first | assumption | exact hM.2.1) rfl ?_
  refine g_iload hX dX10_adds_28 rfl ?_
  refine o_zast hX dX10_adds_29 ha15 (by omega) (by omega) (by decide) hmv (fun M23 hs23 hn23 => ?_)
  have hM := mx_sto (j := 15) hM 34 ((σ 2 0 0).toNat) (0) (mv) (by decide) rfl (by decide) (hs23.trans (congrArg (fun f : Nat → Int32 => (some (.inr (1, 20, .inl f)) : Option hC)) (upd_sup1 σ (sup (sup σ 30 (σ 2 0 0).toNat 0 (rk)) 31 (σ 2 0 0).toNat 0 (po)) 34 ((σ 2 0 0).toNat) (mv) (by rw [sup_c _ _ (by decide), sup_c _ _ (by decide)])))) hn23
  have hob := (hn23 r (by omega)).trans hob
  have ha16 := (hn23 (b + 16) (by omega)).trans ha16
  have ha17 := (hn23 (b + 17) (by omega)).trans ha17
  refine g_aload hX dX10_adds_30 rfl rfl ?_
  refine g_get hX dX10_adds_31 (by first | assumption | exact hM.2.1) rfl ?_
  refine g_aload hX dX10_adds_34 rfl rfl ?_
  refine g_get hX dX10_adds_35 (by first | assumption | exact hM.2.1) rfl ?_
  refine g_iload hX dX10_adds_38 rfl ?_
  refine o_iast hX dX10_adds_40 ha16 (by omega) (by omega) (by decide) (fun M24 hs24 hn24 => ?_)
  have hM := mx_sto (j := 16) hM 32 ((σ 2 0 0).toNat) (0) (mo) (by decide) rfl (by decide) (hs24.trans (congrArg (fun f : Nat → Int32 => (some (.inr (0, 20, .inl f)) : Option hC)) (upd_sup1 σ (sup (sup (sup σ 30 (σ 2 0 0).toNat 0 (rk)) 31 (σ 2 0 0).toNat 0 (po)) 34 (σ 2 0 0).toNat 0 (mv)) 32 ((σ 2 0 0).toNat) (mo) (by rw [sup_c _ _ (by decide), sup_c _ _ (by decide), sup_c _ _ (by decide)])))) hn24
  have hob := (hn24 r (by omega)).trans hob
  have ha17 := (hn24 (b + 17) (by omega)).trans ha17
  refine g_aload hX dX10_adds_41 rfl rfl ?_
  refine g_get hX dX10_adds_42 (by first | assumption | exact hM.2.1) rfl ?_
  refine g_aload hX dX10_adds_45 rfl rfl ?_
  refine g_get hX dX10_adds_46 (by first | assumption | exact hM.2.1) rfl ?_
  refine g_iload hX dX10_adds_49 rfl ?_
  refine o_iast hX dX10_adds_51 ha17 (by omega) (by omega) (by decide) (fun M25 hs25 hn25 => ?_)
  have hM := mx_sto (j := 17) hM 33 ((σ 2 0 0).toNat) (0) (dy) (by decide) rfl (by decide) (hs25.trans (congrArg (fun f : Nat → Int32 => (some (.inr (0, 20, .inl f)) : Option hC)) (upd_sup1 σ (sup (sup (sup (sup σ 30 (σ 2 0 0).toNat 0 (rk)) 31 (σ 2 0 0).toNat 0 (po)) 34 (σ 2 0 0).toNat 0 (mv)) 32 (σ 2 0 0).toNat 0 (mo)) 33 ((σ 2 0 0).toNat) (dy) (by rw [sup_c _ _ (by decide), sup_c _ _ (by decide), sup_c _ _ (by decide), sup_c _ _ (by decide)])))) hn25
  have hob := (hn25 r (by omega)).trans hob
  refine g_aload hX dX10_adds_52 rfl rfl ?_
  refine g_dup hX dX10_adds_53 rfl ?_
  refine g_get hX dX10_adds_54 (by first | assumption | exact hM.2.1) rfl ?_
  refine g_const hX dX10_adds_57 ?_
  refine z_iadd hX dX10_adds_58 ?_
  refine o_put hX dX10_adds_59 hM.2.1 (by simp [MFL]) rfl rfl (fun M26 hs26 hn26 => ?_)
  have hM := mx_cnt hM 2 (σ 2 0 0 + 1) (by decide) (hs26.trans (congrArg (fun f : List Value => (some (.inl (10, f)) : Option hC)) mfl_s2)) hn26
  refine g_aload hX dX10_adds_62 rfl rfl ?_
  refine g_get hX dX10_adds_63 hM.2.1 (v := .int (iZ (σ 2 0 0 + 1))) (by simp [MFL, sup]) ?_
  refine g_const hX dX10_adds_66 ?_
  refine z_isub hX dX10_adds_67 ?_
  refine g_iret hX hR dX10_adds_68 rfl rfl (by decide) (by decide) ?_
  rw [show sup (sup (sup (sup (sup (sup σ 30 (σ 2 0 0).toNat 0 rk) 31 (σ 2 0 0).toNat 0 po) 34 (σ 2 0 0).toNat 0 mv) 32 (σ 2 0 0).toNat 0 mo) 33 (σ 2 0 0).toNat 0 dy) 2 0 0 (σ 2 0 0 + 1) = adF σ rk po mo dy mv by unfold adF; rw [sup_cm (c1 := 34) (c2 := 32) _ _ _ _ _ _ _ (by decide), sup_cm (c1 := 34) (c2 := 33) _ _ _ _ _ _ _ (by decide)]] at hM
  exact kint (hK _ hM) (by omega)

def sp_X10_feast : hS := fun as M sz K => ∃ (b r : Nat) (σ : SG) (th : Int) (P Q : Nat → Int) (x p m d : Int), as = [.ref r, .int (iZ x), .int (iZ p), .int (iZ m), .int (iZ d)] ∧ MX b r σ th P Q M ∧ SV σ ∧ inR x ∧ (p = 0 ∨ p = 1) ∧ inR m ∧ inR d ∧ MO b r (oc_feast σ x p m d) K
theorem s_X10_feast {l : Launch} {g : hG} (hst : l.stackTraces = false) : Ctr l g mX10_feast sp_X10_feast := by
  refine Ctr.mk9 hst (by decide) ?_ ?_
  · rintro as M sz K ⟨b, r, σ, th, P, Q, x, p, m, d, rfl, hM, hV, rx, rp, rm, rd, hK⟩
    exact ⟨by simp [mX10_feast], cat_ok rfl⟩
  rintro X as M sz K hX rfl rfl hR ⟨b, r, σ, th, P, Q, x, p, m, d, rfl, hM, hV, rx, rp, rm, rd, hK⟩
  show G X 0 [.ref r, .int (iZ x), .int (iZ p), .int (iZ m), .int (iZ d)] [] M sz 0 0
  obtain ⟨n0, n1, n2, n3, ⟨e0, hn0⟩, ⟨e1, hn1⟩, ⟨e2, hn2⟩, ⟨e3, hn3⟩⟩ := hV.nat
  refine g_aload hX dX10_feast_0 rfl rfl ?_
  refine g_iload hX dX10_feast_1 rfl ?_
  refine g_cS1 (c2 := 0) (s2 := 0) hX (s_X10_isRank hst) dX10_feast_2 (by first | exact Nat.le_of_ble_eq_true rfl | simp [cat_rf, Value.category]) ⟨rfl, rfl, by decide, by decide⟩ ?_
  refine ⟨_, rfl, (by first | assumption | (constructor <;> omega)), Kc_i ?_⟩
  refine z_ifb_eq hX dX10_feast_5 (fun c5 => ?_) (fun c5 => ?_)
  · refine g_const hX dX10_feast_20 ?_
    refine g_goto hX dX10_feast_21 ?_
    refine o_put hX dX10_feast_38 hM.2.1 (by simp [MFL]) rfl rfl (fun M1 hs1 hn1 => ?_)
    have hM := hM.th hs1 hn1
    
    refine g_aload hX dX10_feast_41 rfl rfl ?_
    refine g_get hX dX10_feast_42 (by first | assumption | exact hM.2.1) rfl ?_
    refine z_if_le hX dX10_feast_45 (by constructor <;> omega) (fun c45 => absurd c45 (by omega)) (fun c45 => ?_)
    
    refine g_const hX dX10_feast_48 ?_
    refine g_goto hX dX10_feast_49 ?_
    refine g_iret hX hR dX10_feast_62 rfl rfl (by decide) (by decide) ?_
    exact MV hK (c := 1) (if_pos (fun q => c5 q.1)) hM hV
  · refine g_const hX dX10_feast_8 ?_
    refine g_iload hX dX10_feast_11 rfl ?_
    refine g_iload hX dX10_feast_12 rfl ?_
    refine g_cS3 (c2 := 0) (s2 := 0) hX (s_X10_isDay hst) dX10_feast_14 (by first | exact Nat.le_of_ble_eq_true rfl | simp [cat_rf, Value.category]) ⟨rfl, rfl, by decide, by decide⟩ ?_
    refine ⟨_, _, _, rfl, (by first | assumption | (constructor <;> omega)), (by first | assumption | (constructor <;> omega)), (by first | assumption | (constructor <;> omega)), Kc_i ?_⟩
    refine z_ifb_ne hX dX10_feast_17 (fun c17 => ?_) (fun c17 => ?_)
    · refine g_aload hX dX10_feast_24 rfl rfl ?_
      refine g_get hX dX10_feast_25 (by first | assumption | exact hM.2.1) rfl ?_
      refine g_const hX dX10_feast_28 ?_
      refine z_icmp_ne hX dX10_feast_30 (by first | assumption | (constructor <;> omega)) (by first | assumption | (constructor <;> omega)) (fun c30 => ?_) (fun c30 => ?_)
      · refine g_const hX dX10_feast_37 ?_
        refine o_put hX dX10_feast_38 hM.2.1 (by simp [MFL]) rfl rfl (fun M1 hs1 hn1 => ?_)
        have hM := hM.th hs1 hn1
        
        refine g_aload hX dX10_feast_41 rfl rfl ?_
        refine g_get hX dX10_feast_42 (by first | assumption | exact hM.2.1) rfl ?_
        refine z_if_le hX dX10_feast_45 (by constructor <;> omega) (fun c45 => ?_) (fun c45 => absurd c45 (by omega))
        
        refine g_aload hX dX10_feast_52 rfl rfl ?_
        refine g_iload hX dX10_feast_53 rfl ?_
        refine g_iload hX dX10_feast_54 rfl ?_
        refine g_const hX dX10_feast_55 ?_
        refine g_iload hX dX10_feast_56 rfl ?_
        refine g_iload hX dX10_feast_57 rfl ?_
        refine g_cV5 (c2 := 0) (s2 := 0) hX (s_X10_adds hst) dX10_feast_59 (by first | assumption | exact hM.2.1) (by first | exact Nat.le_of_ble_eq_true rfl | simp [cat_rf, Value.category]) ⟨rfl, rfl, by decide, by decide⟩ ?_
        have hml := mlen_r 2000 m
        refine ⟨_, _, _, _, _, _, _, _, _, _, _, rfl, hM, hV, c30, rp, Or.inl rfl, fun M9 hM => Kc_i ?_⟩
        refine g_iret hX hR dX10_feast_62 rfl rfl (by decide) (by decide) ?_
        exact MV hK (c := 0) ((if_neg (fun q => q ⟨c5, c17⟩)).trans (if_neg c30)) hM (SV_adF hV ⟨c5, rp, Or.inr ⟨c17.2.1, by omega, by omega⟩⟩ (bZ_f (by omega)).symm c30)
      · refine g_const hX dX10_feast_33 ?_
        refine g_goto hX dX10_feast_34 ?_
        refine o_put hX dX10_feast_38 hM.2.1 (by simp [MFL]) rfl rfl (fun M1 hs1 hn1 => ?_)
        have hM := hM.th hs1 hn1
        
        refine g_aload hX dX10_feast_41 rfl rfl ?_
        refine g_get hX dX10_feast_42 (by first | assumption | exact hM.2.1) rfl ?_
        refine z_if_le hX dX10_feast_45 (by constructor <;> omega) (fun c45 => absurd c45 (by omega)) (fun c45 => ?_)
        
        refine g_const hX dX10_feast_48 ?_
        refine g_goto hX dX10_feast_49 ?_
        refine g_iret hX hR dX10_feast_62 rfl rfl (by decide) (by decide) ?_
        exact MV hK (c := 2) ((if_neg (fun q => q ⟨c5, c17⟩)).trans (if_pos c30)) hM hV
    · refine g_const hX dX10_feast_20 ?_
      refine g_goto hX dX10_feast_21 ?_
      refine o_put hX dX10_feast_38 hM.2.1 (by simp [MFL]) rfl rfl (fun M1 hs1 hn1 => ?_)
      have hM := hM.th hs1 hn1
      
      refine g_aload hX dX10_feast_41 rfl rfl ?_
      refine g_get hX dX10_feast_42 (by first | assumption | exact hM.2.1) rfl ?_
      refine z_if_le hX dX10_feast_45 (by constructor <;> omega) (fun c45 => absurd c45 (by omega)) (fun c45 => ?_)
      
      refine g_const hX dX10_feast_48 ?_
      refine g_goto hX dX10_feast_49 ?_
      refine g_iret hX hR dX10_feast_62 rfl rfl (by decide) (by decide) ?_
      exact MV hK (c := 1) (if_pos (fun q => c17 q.2)) hM hV

def sp_X10_moving : hS := fun as M sz K => ∃ (b r : Nat) (σ : SG) (th : Int) (P Q : Nat → Int) (x p d : Int), as = [.ref r, .int (iZ x), .int (iZ p), .int (iZ d)] ∧ MX b r σ th P Q M ∧ SV σ ∧ inR x ∧ (p = 0 ∨ p = 1) ∧ inR d ∧ MO b r (oc_moving σ x p d) K
theorem s_X10_moving {l : Launch} {g : hG} (hst : l.stackTraces = false) : Ctr l g mX10_moving sp_X10_moving := by
  refine Ctr.mk9 hst (by decide) ?_ ?_
  · rintro as M sz K ⟨b, r, σ, th, P, Q, x, p, d, rfl, hM, hV, rx, rp, rd, hK⟩
    exact ⟨by simp [mX10_moving], cat_ok rfl⟩
  rintro X as M sz K hX rfl rfl hR ⟨b, r, σ, th, P, Q, x, p, d, rfl, hM, hV, rx, rp, rd, hK⟩
  show G X 0 [.ref r, .int (iZ x), .int (iZ p), .int (iZ d)] [] M sz 0 0
  obtain ⟨n0, n1, n2, n3, ⟨e0, hn0⟩, ⟨e1, hn1⟩, ⟨e2, hn2⟩, ⟨e3, hn3⟩⟩ := hV.nat
  refine g_aload hX dX10_moving_0 rfl rfl ?_
  refine g_iload hX dX10_moving_1 rfl ?_
  refine g_cS1 (c2 := 0) (s2 := 0) hX (s_X10_isRank hst) dX10_moving_2 (by first | exact Nat.le_of_ble_eq_true rfl | simp [cat_rf, Value.category]) ⟨rfl, rfl, by decide, by decide⟩ ?_
  refine ⟨_, rfl, (by first | assumption | (constructor <;> omega)), Kc_i ?_⟩
  refine z_ifb_eq hX dX10_moving_5 (fun c5 => ?_) (fun c5 => ?_)
  · refine g_const hX dX10_moving_19 ?_
    refine g_goto hX dX10_moving_20 ?_
    refine o_put hX dX10_moving_37 hM.2.1 (by simp [MFL]) rfl rfl (fun M1 hs1 hn1 => ?_)
    have hM := hM.th hs1 hn1
    
    refine g_aload hX dX10_moving_40 rfl rfl ?_
    refine g_get hX dX10_moving_41 (by first | assumption | exact hM.2.1) rfl ?_
    refine z_if_le hX dX10_moving_44 (by constructor <;> omega) (fun c44 => absurd c44 (by omega)) (fun c44 => ?_)
    
    refine g_const hX dX10_moving_47 ?_
    refine g_goto hX dX10_moving_48 ?_
    refine g_iret hX hR dX10_moving_60 rfl rfl (by decide) (by decide) ?_
    exact MV hK (c := 1) (if_pos (fun q => c5 q.1)) hM hV
  · refine g_iload hX dX10_moving_8 rfl ?_
    refine g_const hX dX10_moving_9 ?_
    refine g_const hX dX10_moving_11 ?_
    refine g_cS3 (c2 := 0) (s2 := 0) hX (s_X10_isIn hst) dX10_moving_13 (by first | exact Nat.le_of_ble_eq_true rfl | simp [cat_rf, Value.category]) ⟨rfl, rfl, by decide, by decide⟩ ?_
    refine ⟨_, _, _, rfl, (by first | assumption | (constructor <;> omega)), (by first | assumption | (constructor <;> omega)), (by first | assumption | (constructor <;> omega)), Kc_i ?_⟩
    refine z_ifb_ne hX dX10_moving_16 (fun c16 => ?_) (fun c16 => ?_)
    · refine g_aload hX dX10_moving_23 rfl rfl ?_
      refine g_get hX dX10_moving_24 (by first | assumption | exact hM.2.1) rfl ?_
      refine g_const hX dX10_moving_27 ?_
      refine z_icmp_ne hX dX10_moving_29 (by first | assumption | (constructor <;> omega)) (by first | assumption | (constructor <;> omega)) (fun c29 => ?_) (fun c29 => ?_)
      · refine g_const hX dX10_moving_36 ?_
        refine o_put hX dX10_moving_37 hM.2.1 (by simp [MFL]) rfl rfl (fun M1 hs1 hn1 => ?_)
        have hM := hM.th hs1 hn1
        
        refine g_aload hX dX10_moving_40 rfl rfl ?_
        refine g_get hX dX10_moving_41 (by first | assumption | exact hM.2.1) rfl ?_
        refine z_if_le hX dX10_moving_44 (by constructor <;> omega) (fun c44 => ?_) (fun c44 => absurd c44 (by omega))
        
        refine g_aload hX dX10_moving_51 rfl rfl ?_
        refine g_iload hX dX10_moving_52 rfl ?_
        refine g_iload hX dX10_moving_53 rfl ?_
        refine g_const hX dX10_moving_54 ?_
        refine g_const hX dX10_moving_55 ?_
        refine g_iload hX dX10_moving_56 rfl ?_
        refine g_cV5 (c2 := 0) (s2 := 0) hX (s_X10_adds hst) dX10_moving_57 (by first | assumption | exact hM.2.1) (by first | exact Nat.le_of_ble_eq_true rfl | simp [cat_rf, Value.category]) ⟨rfl, rfl, by decide, by decide⟩ ?_
        refine ⟨_, _, _, _, _, _, _, _, _, _, _, rfl, hM, hV, c29, rp, Or.inr rfl, fun M9 hM => Kc_i ?_⟩
        refine g_iret hX hR dX10_moving_60 rfl rfl (by decide) (by decide) ?_
        exact MV hK (c := 0) ((if_neg (fun q => q ⟨c5, c16⟩)).trans (if_neg c29)) hM (SV_adF hV ⟨c5, rp, Or.inl ⟨rfl, c16⟩⟩ (bZ_t rfl).symm c29)
      · refine g_const hX dX10_moving_32 ?_
        refine g_goto hX dX10_moving_33 ?_
        refine o_put hX dX10_moving_37 hM.2.1 (by simp [MFL]) rfl rfl (fun M1 hs1 hn1 => ?_)
        have hM := hM.th hs1 hn1
        
        refine g_aload hX dX10_moving_40 rfl rfl ?_
        refine g_get hX dX10_moving_41 (by first | assumption | exact hM.2.1) rfl ?_
        refine z_if_le hX dX10_moving_44 (by constructor <;> omega) (fun c44 => absurd c44 (by omega)) (fun c44 => ?_)
        
        refine g_const hX dX10_moving_47 ?_
        refine g_goto hX dX10_moving_48 ?_
        refine g_iret hX hR dX10_moving_60 rfl rfl (by decide) (by decide) ?_
        exact MV hK (c := 2) ((if_neg (fun q => q ⟨c5, c16⟩)).trans (if_pos c29)) hM hV
    · refine g_const hX dX10_moving_19 ?_
      refine g_goto hX dX10_moving_20 ?_
      refine o_put hX dX10_moving_37 hM.2.1 (by simp [MFL]) rfl rfl (fun M1 hs1 hn1 => ?_)
      have hM := hM.th hs1 hn1
      
      refine g_aload hX dX10_moving_40 rfl rfl ?_
      refine g_get hX dX10_moving_41 (by first | assumption | exact hM.2.1) rfl ?_
      refine z_if_le hX dX10_moving_44 (by constructor <;> omega) (fun c44 => absurd c44 (by omega)) (fun c44 => ?_)
      
      refine g_const hX dX10_moving_47 ?_
      refine g_goto hX dX10_moving_48 ?_
      refine g_iret hX hR dX10_moving_60 rfl rfl (by decide) (by decide) ?_
      exact MV hK (c := 1) (if_pos (fun q => c16 q.2)) hM hV

theorem bst_cg {σ σ' : SG} (h : ∀ c, c < 40 → σ' c = σ c) (t : Nat) (of y : Int) : bstZ σ' t of y = bstZ σ t of y := by
  have hf : ∀ u, fitZ σ' t u = fitZ σ t u := fun u => by
    unfold fitZ
    rw [h 24 (by decide), h 13 (by decide), h 14 (by decide), h 25 (by decide)]
  have hc : ∀ u k, clK σ' t u k = clK σ t u k := by
    intro u k
    induction k with
    | zero => rfl
    | succ k ih =>
      unfold clK popX
      rw [ih, h 15 (by decide), h 26 (by decide), h 24 (by decide)]
  have hcl : ∀ u, clZ σ' t u = clZ σ t u := fun u => by
    unfold clZ
    rw [h 13 (by decide), hc]
  have hb : ∀ n, bstK σ' t of y n = bstK σ t of y n := by
    intro n
    induction n with
    | zero => rfl
    | succ n ih =>
      unfold bstK
      rw [ih]
      simp only [freeU, hf, hcl, h 23 (by decide), h 20 (by decide)]
  unfold bstZ
  rw [h 1 (by decide), hb]
theorem SV_p40 {σ : SG} (hV : SV σ) (v : Int) : SV (sup σ 40 (σ 3 0 0).toNat 0 v) := by
  refine ⟨SVn.congr (fun c h1 => sup_c _ _ (by omega)) hV.n, SVt.congr (sup_c _ _ (by decide)) (fun c h1 h2 => sup_c _ _ (by omega)) hV.2.1, SVu.congr (sup_c _ _ (by decide)) (fun c h1 h2 => sup_c _ _ (by omega)) hV.2.2.1, SVf.congr (sup_c _ _ (by decide)) (fun c h1 h2 => sup_c _ _ (by omega)) hV.f, ?_⟩
  intro i hi
  rw [sup_c σ v (show 3 ≠ 40 by decide)] at hi
  rw [sup_c σ v (show 41 ≠ 40 by decide), sup_c σ v (show 42 ≠ 40 by decide), sup_c σ v (show 43 ≠ 40 by decide), sup_c σ v (show 0 ≠ 40 by decide), sup_c σ v (show 1 ≠ 40 by decide), sup_i σ v (show i ≠ (σ 3 0 0).toNat by omega)]
  exact hV.s i hi

def sp_X10_sing : hS := fun as M sz K => ∃ (b r : Nat) (σ : SG) (th : Int) (P Q : Nat → Int) (y m d : Int), as = [.ref r, .int (iZ y), .int (iZ m), .int (iZ d)] ∧ MX b r σ th P Q M ∧ SV σ ∧ inR y ∧ inR m ∧ inR d ∧ MO b r (oc_sing σ y m d) K
theorem s_X10_sing {l : Launch} {g : hG} (hst : l.stackTraces = false) : Ctr l g mX10_sing sp_X10_sing := by
  refine Ctr.mk9 hst (by decide) ?_ ?_
  · rintro as M sz K ⟨b, r, σ, th, P, Q, y, m, d, rfl, hM, hV, ry, rm, rd, hK⟩
    exact ⟨by simp [mX10_sing], cat_ok rfl⟩
  rintro X as M sz K hX rfl rfl hR ⟨b, r, σ, th, P, Q, y, m, d, rfl, hM, hV, ry, rm, rd, hK⟩
  show G X 0 [.ref r, .int (iZ y), .int (iZ m), .int (iZ d), U9, U9, U9] [] M sz 0 0
  obtain ⟨n0, n1, n2, n3, ⟨e0, hn0⟩, ⟨e1, hn1⟩, ⟨e2, hn2⟩, ⟨e3, hn3⟩⟩ := hV.nat
  have ha21 : M (b + 21) = some (.inr (0, 60, .inl (fun i => iZ (σ 40 i 0)))) := hM.2.2 21 (by decide)
  have ha22 : M (b + 22) = some (.inr (0, 60, .inl (fun i => iZ (σ 41 i 0)))) := hM.2.2 22 (by decide)
  have ha23 : M (b + 23) = some (.inr (0, 60, .inl (fun i => iZ (σ 42 i 0)))) := hM.2.2 23 (by decide)
  have ha24 : M (b + 24) = some (.inr (0, 60, .inl (fun i => iZ (σ 43 i 0)))) := hM.2.2 24 (by decide)
  refine g_aload hX dX10_sing_0 rfl rfl ?_
  refine g_iload hX dX10_sing_1 rfl ?_
  refine g_iload hX dX10_sing_2 rfl ?_
  refine g_iload hX dX10_sing_3 rfl ?_
  refine g_cS3 (c2 := 0) (s2 := 0) hX (s_X10_isDay hst) dX10_sing_4 (by first | exact Nat.le_of_ble_eq_true rfl | simp [cat_rf, Value.category]) ⟨rfl, rfl, by decide, by decide⟩ ?_
  refine ⟨_, _, _, rfl, (by first | assumption | (constructor <;> omega)), (by first | assumption | (constructor <;> omega)), (by first | assumption | (constructor <;> omega)), Kc_i ?_⟩
  refine z_ifb_eq hX dX10_sing_7 (fun c7 => ?_) (fun c7 => ?_)
  · refine g_const hX dX10_sing_14 ?_
    refine o_put hX dX10_sing_15 hM.2.1 (by simp [MFL]) rfl rfl (fun M1 hs1 hn1 => ?_)
    have hM := hM.th hs1 hn1
    have ha21 : M1 (b + 21) = some (.inr (0, 60, .inl (fun i => iZ (σ 40 i 0)))) := hM.2.2 21 (by decide)
    have ha22 : M1 (b + 22) = some (.inr (0, 60, .inl (fun i => iZ (σ 41 i 0)))) := hM.2.2 22 (by decide)
    have ha23 : M1 (b + 23) = some (.inr (0, 60, .inl (fun i => iZ (σ 42 i 0)))) := hM.2.2 23 (by decide)
    have ha24 : M1 (b + 24) = some (.inr (0, 60, .inl (fun i => iZ (σ 43 i 0)))) := hM.2.2 24 (by decide)
    
    refine g_aload hX dX10_sing_18 rfl rfl ?_
    refine g_get hX dX10_sing_19 (by first | assumption | exact hM.2.1) rfl ?_
    refine z_if_le hX dX10_sing_22 (by constructor <;> omega) (fun c22 => absurd c22 (by omega)) (fun c22 => ?_)
    
    refine g_const hX dX10_sing_25 ?_
    refine g_iret hX hR dX10_sing_26 rfl rfl (by decide) (by decide) ?_
    exact MV hK (c := 1) (if_pos c7) hM hV
  · refine g_const hX dX10_sing_10 ?_
    refine g_goto hX dX10_sing_11 ?_
    refine o_put hX dX10_sing_15 hM.2.1 (by simp [MFL]) rfl rfl (fun M1 hs1 hn1 => ?_)
    have hM := hM.th hs1 hn1
    have ha21 : M1 (b + 21) = some (.inr (0, 60, .inl (fun i => iZ (σ 40 i 0)))) := hM.2.2 21 (by decide)
    have ha22 : M1 (b + 22) = some (.inr (0, 60, .inl (fun i => iZ (σ 41 i 0)))) := hM.2.2 22 (by decide)
    have ha23 : M1 (b + 23) = some (.inr (0, 60, .inl (fun i => iZ (σ 42 i 0)))) := hM.2.2 23 (by decide)
    have ha24 : M1 (b + 24) = some (.inr (0, 60, .inl (fun i => iZ (σ 43 i 0)))) := hM.2.2 24 (by decide)
    
    refine g_aload hX dX10_sing_18 rfl rfl ?_
    refine g_get hX dX10_sing_19 (by first | assumption | exact hM.2.1) rfl ?_
    refine z_if_le hX dX10_sing_22 (by constructor <;> omega) (fun c22 => ?_) (fun c22 => absurd c22 (by omega))
    
    refine g_iload hX dX10_sing_27 rfl ?_
    refine g_iload hX dX10_sing_28 rfl ?_
    refine g_iload hX dX10_sing_29 rfl ?_
    refine g_cS3 (c2 := 0) (s2 := 0) hX (s_X10_placeOf hst) dX10_sing_30 (by first | exact Nat.le_of_ble_eq_true rfl | simp [cat_rf, Value.category]) ⟨rfl, rfl, by decide, by decide⟩ ?_
    obtain ⟨qy, qm, qd1, qd2⟩ := id c7
    have hml := mlen_r y m
    have hcd := cal_d (y := y) qm ⟨qd1, qd2⟩
    have hyl := ylen_r y
    refine ⟨_, _, _, rfl, by omega, by omega, by omega, Kc_i ?_⟩
    obtain ⟨p, hp9⟩ : ∃ p : Nat, placeZ y m d = (p : Int) := ⟨(placeZ y m d).toNat, by omega⟩
    rw [hp9]
    refine g_istore hX dX10_sing_33 ?_
    dsimp only [List.set]
    refine g_aload hX dX10_sing_35 rfl rfl ?_
    refine g_iload hX dX10_sing_36 rfl ?_
    refine g_iload hX dX10_sing_37 rfl ?_
    refine g_cV2 (c2 := 0) (s2 := 0) hX (s_X10_themeOn hst) dX10_sing_39 (by first | assumption | exact hM.2.1) (by first | exact Nat.le_of_ble_eq_true rfl | simp [cat_rf, Value.category]) ⟨rfl, rfl, by decide, by decide⟩ ?_
    refine ⟨_, _, _, _, _, _, y, p, rfl, hM, hV, qy, by omega, fun P1 Q1 M9 hM => Kc_i ?_⟩
    have hthr := th_r hV y p
    refine g_istore hX dX10_sing_42 ?_
    dsimp only [List.set]
    refine g_iload hX dX10_sing_44 rfl ?_
    refine g_const hX dX10_sing_46 ?_
    refine z_icmp_eq hX dX10_sing_48 (by first | assumption | (constructor <;> omega)) (by first | assumption | (constructor <;> omega)) (fun c48 => ?_) (fun c48 => ?_)
    · refine g_const hX dX10_sing_70 ?_
      refine g_goto hX dX10_sing_72 ?_
      refine g_istore hX dX10_sing_84 ?_
      dsimp only [List.set]
      refine g_aload hX dX10_sing_86 rfl rfl ?_
      refine g_iload hX dX10_sing_87 rfl ?_
      refine g_const hX dX10_sing_89 ?_
      refine z_icmp_ne hX dX10_sing_91 (by first | assumption | (constructor <;> omega)) (by first | assumption | (constructor <;> omega)) (fun c91 => ?_) (fun c91 => ?_)
      · exfalso; omega
      · refine g_const hX dX10_sing_94 ?_
        refine g_goto hX dX10_sing_95 ?_
        refine o_put hX dX10_sing_99 hM.2.1 (by simp [MFL]) rfl rfl (fun M2 hs2 hn2 => ?_)
        have hM := hM.th hs2 hn2
        have ha21 : M2 (b + 21) = some (.inr (0, 60, .inl (fun i => iZ (σ 40 i 0)))) := hM.2.2 21 (by decide)
        have ha22 : M2 (b + 22) = some (.inr (0, 60, .inl (fun i => iZ (σ 41 i 0)))) := hM.2.2 22 (by decide)
        have ha23 : M2 (b + 23) = some (.inr (0, 60, .inl (fun i => iZ (σ 42 i 0)))) := hM.2.2 23 (by decide)
        have ha24 : M2 (b + 24) = some (.inr (0, 60, .inl (fun i => iZ (σ 43 i 0)))) := hM.2.2 24 (by decide)
        
        refine g_aload hX dX10_sing_102 rfl rfl ?_
        refine g_get hX dX10_sing_103 (by first | assumption | exact hM.2.1) rfl ?_
        refine z_if_le hX dX10_sing_106 (by constructor <;> omega) (fun c106 => absurd c106 (by omega)) (fun c106 => ?_)
        
        refine g_const hX dX10_sing_109 ?_
        refine g_iret hX hR dX10_sing_110 rfl rfl (by decide) (by decide) ?_
        exact MV hK (c := 2) ((if_neg (fun q => q c7)).trans (if_pos (by rw [hp9, Int.toNat_natCast]; exact Or.inr (Or.inr (Or.inl c48))))) hM hV
    · refine g_aload hX dX10_sing_51 rfl rfl ?_
      refine g_get hX dX10_sing_52 (by first | assumption | exact hM.2.1) rfl ?_
      refine g_const hX dX10_sing_55 ?_
      refine z_icmp_eq hX dX10_sing_57 (by first | assumption | (constructor <;> omega)) (by first | assumption | (constructor <;> omega)) (fun c57 => ?_) (fun c57 => ?_)
      · refine g_const hX dX10_sing_70 ?_
        refine g_goto hX dX10_sing_72 ?_
        refine g_istore hX dX10_sing_84 ?_
        dsimp only [List.set]
        refine g_aload hX dX10_sing_86 rfl rfl ?_
        refine g_iload hX dX10_sing_87 rfl ?_
        refine g_const hX dX10_sing_89 ?_
        refine z_icmp_ne hX dX10_sing_91 (by first | assumption | (constructor <;> omega)) (by first | assumption | (constructor <;> omega)) (fun c91 => ?_) (fun c91 => ?_)
        · exfalso; omega
        · refine g_const hX dX10_sing_94 ?_
          refine g_goto hX dX10_sing_95 ?_
          refine o_put hX dX10_sing_99 hM.2.1 (by simp [MFL]) rfl rfl (fun M2 hs2 hn2 => ?_)
          have hM := hM.th hs2 hn2
          have ha21 : M2 (b + 21) = some (.inr (0, 60, .inl (fun i => iZ (σ 40 i 0)))) := hM.2.2 21 (by decide)
          have ha22 : M2 (b + 22) = some (.inr (0, 60, .inl (fun i => iZ (σ 41 i 0)))) := hM.2.2 22 (by decide)
          have ha23 : M2 (b + 23) = some (.inr (0, 60, .inl (fun i => iZ (σ 42 i 0)))) := hM.2.2 23 (by decide)
          have ha24 : M2 (b + 24) = some (.inr (0, 60, .inl (fun i => iZ (σ 43 i 0)))) := hM.2.2 24 (by decide)
          
          refine g_aload hX dX10_sing_102 rfl rfl ?_
          refine g_get hX dX10_sing_103 (by first | assumption | exact hM.2.1) rfl ?_
          refine z_if_le hX dX10_sing_106 (by constructor <;> omega) (fun c106 => absurd c106 (by omega)) (fun c106 => ?_)
          
          refine g_const hX dX10_sing_109 ?_
          refine g_iret hX hR dX10_sing_110 rfl rfl (by decide) (by decide) ?_
          exact MV hK (c := 2) ((if_neg (fun q => q c7)).trans (if_pos (by rw [hp9, Int.toNat_natCast]; exact Or.inl c57))) hM hV
      · refine g_aload hX dX10_sing_60 rfl rfl ?_
        refine g_iload hX dX10_sing_61 rfl ?_
        refine g_iload hX dX10_sing_62 rfl ?_
        refine g_cV2 (c2 := 0) (s2 := 0) hX (s_X10_isLater hst) dX10_sing_64 (by first | assumption | exact hM.2.1) (by first | exact Nat.le_of_ble_eq_true rfl | simp [cat_rf, Value.category]) ⟨rfl, rfl, by decide, by decide⟩ ?_
        refine ⟨_, _, _, _, _, _, y, _, rfl, hM, hV, qy, by omega, Kc_i ?_⟩
        refine z_ifb_ne hX dX10_sing_67 (fun c67 => ?_) (fun c67 => ?_)
        · refine g_aload hX dX10_sing_75 rfl rfl ?_
          refine g_iload hX dX10_sing_76 rfl ?_
          refine g_iload hX dX10_sing_77 rfl ?_
          refine g_iload hX dX10_sing_79 rfl ?_
          refine g_cV3 (c2 := 0) (s2 := 0) hX (s_X10_hymn hst) dX10_sing_81 (by first | assumption | exact hM.2.1) (by first | exact Nat.le_of_ble_eq_true rfl | simp [cat_rf, Value.category]) ⟨rfl, rfl, by decide, by decide⟩ ?_
          obtain ⟨w9, hw9⟩ : ∃ w9 : Nat, thZ σ y p = (w9 : Int) := ⟨(thZ σ y p).toNat, by omega⟩
          rw [hw9]
          refine ⟨_, _, _, _, _, _, w9, y, _, rfl, hM, hV, by omega, qy, by omega, Kc_i ?_⟩
          have hhr := hym_r σ (w9 : Int) y (dnumZ y (p : Int)) (σ 0 0 0).toNat
          have hhz : hymZ σ (w9 : Int) y (dnumZ y (p : Int)) = hymK σ (w9 : Int) y (dnumZ y (p : Int)) (σ 0 0 0).toNat := rfl
          rw [← hhz] at hhr
          refine g_istore hX dX10_sing_84 ?_
          dsimp only [List.set]
          refine g_aload hX dX10_sing_86 rfl rfl ?_
          refine g_iload hX dX10_sing_87 rfl ?_
          refine g_const hX dX10_sing_89 ?_
          refine z_icmp_ne hX dX10_sing_91 (by first | assumption | (constructor <;> omega)) (by first | assumption | (constructor <;> omega)) (fun c91 => ?_) (fun c91 => ?_)
          · refine g_const hX dX10_sing_98 ?_
            refine o_put hX dX10_sing_99 hM.2.1 (by simp [MFL]) rfl rfl (fun M2 hs2 hn2 => ?_)
            have hM := hM.th hs2 hn2
            have ha21 : M2 (b + 21) = some (.inr (0, 60, .inl (fun i => iZ (σ 40 i 0)))) := hM.2.2 21 (by decide)
            have ha22 : M2 (b + 22) = some (.inr (0, 60, .inl (fun i => iZ (σ 41 i 0)))) := hM.2.2 22 (by decide)
            have ha23 : M2 (b + 23) = some (.inr (0, 60, .inl (fun i => iZ (σ 42 i 0)))) := hM.2.2 23 (by decide)
            have ha24 : M2 (b + 24) = some (.inr (0, 60, .inl (fun i => iZ (σ 43 i 0)))) := hM.2.2 24 (by decide)
            
            refine g_aload hX dX10_sing_102 rfl rfl ?_
            refine g_get hX dX10_sing_103 (by first | assumption | exact hM.2.1) rfl ?_
            refine z_if_le hX dX10_sing_106 (by constructor <;> omega) (fun c106 => ?_) (fun c106 => absurd c106 (by omega))
            
            obtain ⟨hb0, hb1, hb2⟩ := hhr.resolve_left c91
            obtain ⟨t9, hb⟩ : ∃ t9 : Nat, hymZ σ (w9 : Int) y (dnumZ y (p : Int)) = (t9 : Int) := ⟨(hymZ σ (w9 : Int) y (dnumZ y (p : Int))).toNat, by omega⟩
            rw [hb, Int.toNat_natCast] at hb2
            rw [hb]
            have hrb := hM.1
            have hob := hM.2.1
            have ha21 : M2 (b + 21) = some (.inr (0, 60, .inl (fun i => iZ (σ 40 i 0)))) := hM.2.2 21 (by decide)
            have ha22 : M2 (b + 22) = some (.inr (0, 60, .inl (fun i => iZ (σ 41 i 0)))) := hM.2.2 22 (by decide)
            have ha23 : M2 (b + 23) = some (.inr (0, 60, .inl (fun i => iZ (σ 42 i 0)))) := hM.2.2 23 (by decide)
            have ha24 : M2 (b + 24) = some (.inr (0, 60, .inl (fun i => iZ (σ 43 i 0)))) := hM.2.2 24 (by decide)
            refine g_aload hX dX10_sing_111 rfl rfl ?_
            refine g_get hX dX10_sing_112 (by first | assumption | exact hM.2.1) rfl ?_
            refine g_aload hX dX10_sing_115 rfl rfl ?_
            refine g_get hX dX10_sing_116 (by first | assumption | exact hM.2.1) rfl ?_
            refine g_iload hX dX10_sing_119 rfl ?_
            refine o_iast hX dX10_sing_121 ha21 (by omega) (by omega) (by decide) (fun M21 hs21 hn21 => ?_)
            have hM := mx_sto (j := 21) hM 40 ((σ 3 0 0).toNat) (0) ((t9 : Int)) (by decide) rfl (by decide) (hs21.trans (congrArg (fun f : Nat → Int32 => (some (.inr (0, 60, .inl f)) : Option hC)) (upd_sup1 σ (σ) 40 ((σ 3 0 0).toNat) ((t9 : Int)) (rfl)))) hn21
            have hob := (hn21 r (by omega)).trans hob
            have ha22 := (hn21 (b + 22) (by omega)).trans ha22
            have ha23 := (hn21 (b + 23) (by omega)).trans ha23
            have ha24 := (hn21 (b + 24) (by omega)).trans ha24
            refine g_aload hX dX10_sing_122 rfl rfl ?_
            refine g_get hX dX10_sing_123 (by first | assumption | exact hM.2.1) rfl ?_
            refine g_aload hX dX10_sing_126 rfl rfl ?_
            refine g_get hX dX10_sing_127 (by first | assumption | exact hM.2.1) rfl ?_
            refine g_aload hX dX10_sing_130 rfl rfl ?_
            refine g_iload hX dX10_sing_131 rfl ?_
            refine g_const hX dX10_sing_133 ?_
            refine g_iload hX dX10_sing_134 rfl ?_
            refine g_cV3 (c2 := 0) (s2 := 0) hX (s_X10_bestOf hst) dX10_sing_135 (by first | assumption | exact hM.2.1) (by first | exact Nat.le_of_ble_eq_true rfl | simp [cat_rf, Value.category]) ⟨rfl, rfl, by decide, by decide⟩ ?_
            have hcg := bst_cg (σ := σ) (σ' := sup σ 40 (σ 3 0 0).toNat 0 (t9 : Int)) (fun c hc => sup_c _ _ (by omega)) t9 1 y
            refine ⟨_, _, _, _, _, _, t9, _, _, rfl, hM, SV_p40 hV _, by rw [sup_c σ _ (show 0 ≠ 40 by decide)]; omega, Or.inl rfl, by omega, Kc_i ?_⟩
            rw [show (1 : Int) - 0 = 1 from rfl, hcg]
            obtain ⟨hu0, hu1, hu2⟩ := (bstZ_r hV t9 1 y).resolve_left (rea_b hb2)
            refine o_iast hX dX10_sing_138 ha22 (by omega) (by omega) (by decide) (fun M22 hs22 hn22 => ?_)
            have hM := mx_sto (j := 22) hM 41 ((σ 3 0 0).toNat) (0) (bstZ σ t9 1 y) (by decide) rfl (by decide) (hs22.trans (congrArg (fun f : Nat → Int32 => (some (.inr (0, 60, .inl f)) : Option hC)) (upd_sup1 σ (sup σ 40 (σ 3 0 0).toNat 0 ((t9 : Int))) 41 ((σ 3 0 0).toNat) (bstZ σ t9 1 y) (by rw [sup_c _ _ (by decide)])))) hn22
            have hob := (hn22 r (by omega)).trans hob
            have ha23 := (hn22 (b + 23) (by omega)).trans ha23
            have ha24 := (hn22 (b + 24) (by omega)).trans ha24
            refine g_aload hX dX10_sing_139 rfl rfl ?_
            refine g_get hX dX10_sing_140 (by first | assumption | exact hM.2.1) rfl ?_
            refine g_aload hX dX10_sing_143 rfl rfl ?_
            refine g_get hX dX10_sing_144 (by first | assumption | exact hM.2.1) rfl ?_
            refine g_iload hX dX10_sing_147 rfl ?_
            refine o_iast hX dX10_sing_148 ha23 (by omega) (by omega) (by decide) (fun M23 hs23 hn23 => ?_)
            have hM := mx_sto (j := 23) hM 42 ((σ 3 0 0).toNat) (0) (y) (by decide) rfl (by decide) (hs23.trans (congrArg (fun f : Nat → Int32 => (some (.inr (0, 60, .inl f)) : Option hC)) (upd_sup1 σ (sup (sup σ 40 (σ 3 0 0).toNat 0 ((t9 : Int))) 41 (σ 3 0 0).toNat 0 (bstZ σ t9 1 y)) 42 ((σ 3 0 0).toNat) (y) (by rw [sup_c _ _ (by decide), sup_c _ _ (by decide)])))) hn23
            have hob := (hn23 r (by omega)).trans hob
            have ha24 := (hn23 (b + 24) (by omega)).trans ha24
            refine g_aload hX dX10_sing_149 rfl rfl ?_
            refine g_get hX dX10_sing_150 (by first | assumption | exact hM.2.1) rfl ?_
            refine g_aload hX dX10_sing_153 rfl rfl ?_
            refine g_get hX dX10_sing_154 (by first | assumption | exact hM.2.1) rfl ?_
            refine g_iload hX dX10_sing_157 rfl ?_
            refine o_iast hX dX10_sing_159 ha24 (by omega) (by omega) (by decide) (fun M24 hs24 hn24 => ?_)
            have hM := mx_sto (j := 24) hM 43 ((σ 3 0 0).toNat) (0) ((p : Int)) (by decide) rfl (by decide) (hs24.trans (congrArg (fun f : Nat → Int32 => (some (.inr (0, 60, .inl f)) : Option hC)) (upd_sup1 σ (sup (sup (sup σ 40 (σ 3 0 0).toNat 0 ((t9 : Int))) 41 (σ 3 0 0).toNat 0 (bstZ σ t9 1 y)) 42 (σ 3 0 0).toNat 0 (y)) 43 ((σ 3 0 0).toNat) ((p : Int)) (by rw [sup_c _ _ (by decide), sup_c _ _ (by decide), sup_c _ _ (by decide)])))) hn24
            have hob := (hn24 r (by omega)).trans hob
            refine g_aload hX dX10_sing_160 rfl rfl ?_
            refine g_dup hX dX10_sing_161 rfl ?_
            refine g_get hX dX10_sing_162 (by first | assumption | exact hM.2.1) rfl ?_
            refine g_const hX dX10_sing_165 ?_
            refine z_iadd hX dX10_sing_166 ?_
            refine o_put hX dX10_sing_167 hM.2.1 (by simp [MFL]) rfl rfl (fun M25 hs25 hn25 => ?_)
            have hM := mx_cnt hM 3 (σ 3 0 0 + 1) (by decide) (hs25.trans (congrArg (fun f : List Value => (some (.inl (10, f)) : Option hC)) mfl_s3)) hn25
            refine g_iload hX dX10_sing_170 rfl ?_
            refine g_iret hX hR dX10_sing_172 rfl rfl (by decide) (by decide) ?_
            refine kint (MV hK (c := 0) (((if_neg (fun q => q c7)).trans (if_neg (fun q => q.elim (fun z => c57 z) (fun q => q.elim (fun z => z (by rw [hp9]; exact c67)) (fun q => q.elim (fun z => c48 (by rw [hp9, Int.toNat_natCast] at z; exact z)) (fun z => c91 (by rw [hp9, Int.toNat_natCast, hw9] at z; exact z))))))).trans (by rw [hp9, Int.toNat_natCast, hw9, hb, Int.toNat_natCast]; rfl)) hM (SV_adS hV ⟨by omega, by omega⟩ ⟨by omega, by omega⟩ qy ⟨by omega, by omega⟩ (by omega))) rfl
          · refine g_const hX dX10_sing_94 ?_
            refine g_goto hX dX10_sing_95 ?_
            refine o_put hX dX10_sing_99 hM.2.1 (by simp [MFL]) rfl rfl (fun M2 hs2 hn2 => ?_)
            have hM := hM.th hs2 hn2
            have ha21 : M2 (b + 21) = some (.inr (0, 60, .inl (fun i => iZ (σ 40 i 0)))) := hM.2.2 21 (by decide)
            have ha22 : M2 (b + 22) = some (.inr (0, 60, .inl (fun i => iZ (σ 41 i 0)))) := hM.2.2 22 (by decide)
            have ha23 : M2 (b + 23) = some (.inr (0, 60, .inl (fun i => iZ (σ 42 i 0)))) := hM.2.2 23 (by decide)
            have ha24 : M2 (b + 24) = some (.inr (0, 60, .inl (fun i => iZ (σ 43 i 0)))) := hM.2.2 24 (by decide)
            
            refine g_aload hX dX10_sing_102 rfl rfl ?_
            refine g_get hX dX10_sing_103 (by first | assumption | exact hM.2.1) rfl ?_
            refine z_if_le hX dX10_sing_106 (by constructor <;> omega) (fun c106 => absurd c106 (by omega)) (fun c106 => ?_)
            
            refine g_const hX dX10_sing_109 ?_
            refine g_iret hX hR dX10_sing_110 rfl rfl (by decide) (by decide) ?_
            exact MV hK (c := 2) ((if_neg (fun q => q c7)).trans (if_pos (by rw [hp9, Int.toNat_natCast]; exact Or.inr (Or.inr (Or.inr (by rw [hw9]; exact c91)))))) hM hV
        · refine g_const hX dX10_sing_70 ?_
          refine g_goto hX dX10_sing_72 ?_
          refine g_istore hX dX10_sing_84 ?_
          dsimp only [List.set]
          refine g_aload hX dX10_sing_86 rfl rfl ?_
          refine g_iload hX dX10_sing_87 rfl ?_
          refine g_const hX dX10_sing_89 ?_
          refine z_icmp_ne hX dX10_sing_91 (by first | assumption | (constructor <;> omega)) (by first | assumption | (constructor <;> omega)) (fun c91 => ?_) (fun c91 => ?_)
          · exfalso; omega
          · refine g_const hX dX10_sing_94 ?_
            refine g_goto hX dX10_sing_95 ?_
            refine o_put hX dX10_sing_99 hM.2.1 (by simp [MFL]) rfl rfl (fun M2 hs2 hn2 => ?_)
            have hM := hM.th hs2 hn2
            have ha21 : M2 (b + 21) = some (.inr (0, 60, .inl (fun i => iZ (σ 40 i 0)))) := hM.2.2 21 (by decide)
            have ha22 : M2 (b + 22) = some (.inr (0, 60, .inl (fun i => iZ (σ 41 i 0)))) := hM.2.2 22 (by decide)
            have ha23 : M2 (b + 23) = some (.inr (0, 60, .inl (fun i => iZ (σ 42 i 0)))) := hM.2.2 23 (by decide)
            have ha24 : M2 (b + 24) = some (.inr (0, 60, .inl (fun i => iZ (σ 43 i 0)))) := hM.2.2 24 (by decide)
            
            refine g_aload hX dX10_sing_102 rfl rfl ?_
            refine g_get hX dX10_sing_103 (by first | assumption | exact hM.2.1) rfl ?_
            refine z_if_le hX dX10_sing_106 (by constructor <;> omega) (fun c106 => absurd c106 (by omega)) (fun c106 => ?_)
            
            refine g_const hX dX10_sing_109 ?_
            refine g_iret hX hR dX10_sing_110 rfl rfl (by decide) (by decide) ?_
            exact MV hK (c := 2) ((if_neg (fun q => q c7)).trans (if_pos (by rw [hp9, Int.toNat_natCast]; exact Or.inr (Or.inl c67)))) hM hV
