section
variable {cx : vCx} {cc : ByteArray} {nL d MC MS kc ks pc pc1 pc2 pc3 idx : Nat} {L : List (Option Value)} {st : List Value} {S : vSh} {σ : vMem}
theorem v_strlen (hd : vD cc pc (.ldc 126) 2 pc1) (hd1 : vD cc pc1 (.invokevirtual 128) 3 pc2) (h1 : 2 ≤ d) (hrm : (st.map fun v => v.category).sum ≤ 6) (k : vV cx "VillagePay$Reader" cc nL d MC MS kc ks pc2 L (.int (iI 77) :: st) S σ) : vV cx "VillagePay$Reader" cc nL d MC MS kc ks pc L st S σ := by
  sorry
theorem v_strchar5 {x0 x1 x2 x3 x4 : Option Value} {rest : List (Option Value)} {i : Int} (hd : vD cc pc (.ldc 126) 2 pc1) (hd1 : vD cc pc1 (.iload 5) 2 pc2) (hd2 : vD cc pc2 (.invokevirtual 133) 3 pc3) (hi : 0 ≤ i ∧ i < 77) (h1 : 4 ≤ d) (hrm : (st.map fun v => v.category).sum ≤ 6) (k : vV cx "VillagePay$Reader" cc nL d MC MS kc ks pc3 (x0 :: x1 :: x2 :: x3 :: x4 :: some (.int (iI i)) :: rest) (.int (iI (WL.getD i.toNat 0)) :: st) S σ) : vV cx "VillagePay$Reader" cc nL d MC MS kc ks pc (x0 :: x1 :: x2 :: x3 :: x4 :: some (.int (iI i)) :: rest) st S σ := by
  sorry
end
