/-! further rules -/
section R5
variable {X : hX} {d : hD} {pc n t i a9 : Nat} {lv st : List Value} {M : hM} {sz cs ss : Nat} {a b : Int}
theorem z_alenM (hX : Cok X d) (h : At d pc .arraylength 1 n) (kk : G X n lv (.int (iZ 12) :: st) M sz cs ss) : G X pc lv (.ref X.2.2.2.2.2.2.2.2.1 :: st) M sz cs ss := g_alenM hX h kk
theorem z_alenD (hX : Cok X d) (h : At d pc .arraylength 1 n) (kk : G X n lv (.int (iZ 0) :: st) M sz cs ss) : G X pc lv (.ref X.2.2.2.2.2.2.2.2.2 :: st) M sz cs ss := g_alenD hX h kk
theorem kint {K : hK} {M : hM} {sz : Nat} {a b : Int} (h : K (.inl (some (.int (iZ a)))) M sz) (e : a = b) : K (.inl (some (.int (iZ b)))) M sz := e ▸ h
end R5
