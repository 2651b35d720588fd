section
variable {sb : Nat} {cx : vCx} {own : String} {cc ccy : ByteArray} {nL nLy d dy MC MS kc ks pc pc' idx ci r N : Nat} {L : List (Option Value)} {st : List Value} {S : vSh} {σ : vMem} {y : MethodName} {fs : List vFD} {T : u_T}
theorem u_gVI0 {P : Int → vMem → Prop} (hd : vD cc pc (.invokevirtual idx) 3 pc') (hl : vMl own idx y 0) (hc : Cond.code y ccy nLy (some .int) ∈ wt) (hM : vMet dy 0 0 y ccy nLy (some .int) [.ref r] S σ (rP S P)) (hr : S[r]? = some (.inr (ci, fs))) (hci : vcl[ci]? = some (y.cls, T, N)) (hdp : dy + 1 ≤ d) (hnl : nLy ≤ 13) (hrm : (st.map fun v => v.category).sum ≤ 8) (hkc : kc + 0 ≤ MC) (hks : ks + 0 ≤ MS) (k : ∀ z σ', vIn z → P z σ' → vU sb cx own cc nL d MC MS kc ks pc' L (.int (iI z) :: st) S σ') : vU sb cx own cc nL d MC MS kc ks pc L (.ref r :: st) S σ :=
  u_callV (as := []) hd hl hc hM hr hci rfl hdp hnl hrm hkc hks (fun z S' σ' hz h => by obtain ⟨rfl, h⟩ := h; exact k z σ' hz h)
theorem u_gVZ0 {P : Int → vMem → Prop} (hd : vD cc pc (.invokevirtual idx) 3 pc') (hl : vMl own idx y 0) (hc : Cond.code y ccy nLy (some .boolean) ∈ wt) (hM : vMet dy 0 0 y ccy nLy (some .boolean) [.ref r] S σ (rP S P)) (hr : S[r]? = some (.inr (ci, fs))) (hci : vcl[ci]? = some (y.cls, T, N)) (hdp : dy + 1 ≤ d) (hnl : nLy ≤ 13) (hrm : (st.map fun v => v.category).sum ≤ 8) (hkc : kc + 0 ≤ MC) (hks : ks + 0 ≤ MS) (k : ∀ z σ', vIn z → P z σ' → vU sb cx own cc nL d MC MS kc ks pc' L (.int (iI z) :: st) S σ') : vU sb cx own cc nL d MC MS kc ks pc L (.ref r :: st) S σ :=
  u_callV (as := []) hd hl hc hM hr hci rfl hdp hnl hrm hkc hks (fun z S' σ' hz h => by obtain ⟨rfl, h⟩ := h; exact k z σ' hz h)
theorem u_gVI1 {a0 : Value} {P : Int → vMem → Prop} (hd : vD cc pc (.invokevirtual idx) 3 pc') (hl : vMl own idx y 1) (hc : Cond.code y ccy nLy (some .int) ∈ wt) (hM : vMet dy 0 0 y ccy nLy (some .int) [.ref r, a0] S σ (rP S P)) (hr : S[r]? = some (.inr (ci, fs))) (hci : vcl[ci]? = some (y.cls, T, N)) (hdp : dy + 1 ≤ d) (hnl : nLy ≤ 13) (hrm : (st.map fun v => v.category).sum ≤ 8) (hkc : kc + 0 ≤ MC) (hks : ks + 0 ≤ MS) (k : ∀ z σ', vIn z → P z σ' → vU sb cx own cc nL d MC MS kc ks pc' L (.int (iI z) :: st) S σ') : vU sb cx own cc nL d MC MS kc ks pc L (a0 :: .ref r :: st) S σ :=
  u_callV (as := [a0]) hd hl hc hM hr hci rfl hdp hnl hrm hkc hks (fun z S' σ' hz h => by obtain ⟨rfl, h⟩ := h; exact k z σ' hz h)
theorem u_gVZ1 {a0 : Value} {P : Int → vMem → Prop} (hd : vD cc pc (.invokevirtual idx) 3 pc') (hl : vMl own idx y 1) (hc : Cond.code y ccy nLy (some .boolean) ∈ wt) (hM : vMet dy 0 0 y ccy nLy (some .boolean) [.ref r, a0] S σ (rP S P)) (hr : S[r]? = some (.inr (ci, fs))) (hci : vcl[ci]? = some (y.cls, T, N)) (hdp : dy + 1 ≤ d) (hnl : nLy ≤ 13) (hrm : (st.map fun v => v.category).sum ≤ 8) (hkc : kc + 0 ≤ MC) (hks : ks + 0 ≤ MS) (k : ∀ z σ', vIn z → P z σ' → vU sb cx own cc nL d MC MS kc ks pc' L (.int (iI z) :: st) S σ') : vU sb cx own cc nL d MC MS kc ks pc L (a0 :: .ref r :: st) S σ :=
  u_callV (as := [a0]) hd hl hc hM hr hci rfl hdp hnl hrm hkc hks (fun z S' σ' hz h => by obtain ⟨rfl, h⟩ := h; exact k z σ' hz h)
theorem u_gVI2 {a0 a1 : Value} {P : Int → vMem → Prop} (hd : vD cc pc (.invokevirtual idx) 3 pc') (hl : vMl own idx y 2) (hc : Cond.code y ccy nLy (some .int) ∈ wt) (hM : vMet dy 0 0 y ccy nLy (some .int) [.ref r, a0, a1] S σ (rP S P)) (hr : S[r]? = some (.inr (ci, fs))) (hci : vcl[ci]? = some (y.cls, T, N)) (hdp : dy + 1 ≤ d) (hnl : nLy ≤ 13) (hrm : (st.map fun v => v.category).sum ≤ 8) (hkc : kc + 0 ≤ MC) (hks : ks + 0 ≤ MS) (k : ∀ z σ', vIn z → P z σ' → vU sb cx own cc nL d MC MS kc ks pc' L (.int (iI z) :: st) S σ') : vU sb cx own cc nL d MC MS kc ks pc L (a1 :: a0 :: .ref r :: st) S σ :=
  u_callV (as := [a0, a1]) hd hl hc hM hr hci rfl hdp hnl hrm hkc hks (fun z S' σ' hz h => by obtain ⟨rfl, h⟩ := h; exact k z σ' hz h)
theorem u_gVZ2 {a0 a1 : Value} {P : Int → vMem → Prop} (hd : vD cc pc (.invokevirtual idx) 3 pc') (hl : vMl own idx y 2) (hc : Cond.code y ccy nLy (some .boolean) ∈ wt) (hM : vMet dy 0 0 y ccy nLy (some .boolean) [.ref r, a0, a1] S σ (rP S P)) (hr : S[r]? = some (.inr (ci, fs))) (hci : vcl[ci]? = some (y.cls, T, N)) (hdp : dy + 1 ≤ d) (hnl : nLy ≤ 13) (hrm : (st.map fun v => v.category).sum ≤ 8) (hkc : kc + 0 ≤ MC) (hks : ks + 0 ≤ MS) (k : ∀ z σ', vIn z → P z σ' → vU sb cx own cc nL d MC MS kc ks pc' L (.int (iI z) :: st) S σ') : vU sb cx own cc nL d MC MS kc ks pc L (a1 :: a0 :: .ref r :: st) S σ :=
  u_callV (as := [a0, a1]) hd hl hc hM hr hci rfl hdp hnl hrm hkc hks (fun z S' σ' hz h => by obtain ⟨rfl, h⟩ := h; exact k z σ' hz h)
theorem u_gVI3 {a0 a1 a2 : Value} {P : Int → vMem → Prop} (hd : vD cc pc (.invokevirtual idx) 3 pc') (hl : vMl own idx y 3) (hc : Cond.code y ccy nLy (some .int) ∈ wt) (hM : vMet dy 0 0 y ccy nLy (some .int) [.ref r, a0, a1, a2] S σ (rP S P)) (hr : S[r]? = some (.inr (ci, fs))) (hci : vcl[ci]? = some (y.cls, T, N)) (hdp : dy + 1 ≤ d) (hnl : nLy ≤ 13) (hrm : (st.map fun v => v.category).sum ≤ 8) (hkc : kc + 0 ≤ MC) (hks : ks + 0 ≤ MS) (k : ∀ z σ', vIn z → P z σ' → vU sb cx own cc nL d MC MS kc ks pc' L (.int (iI z) :: st) S σ') : vU sb cx own cc nL d MC MS kc ks pc L (a2 :: a1 :: a0 :: .ref r :: st) S σ :=
  u_callV (as := [a0, a1, a2]) hd hl hc hM hr hci rfl hdp hnl hrm hkc hks (fun z S' σ' hz h => by obtain ⟨rfl, h⟩ := h; exact k z σ' hz h)
theorem u_gVZ3 {a0 a1 a2 : Value} {P : Int → vMem → Prop} (hd : vD cc pc (.invokevirtual idx) 3 pc') (hl : vMl own idx y 3) (hc : Cond.code y ccy nLy (some .boolean) ∈ wt) (hM : vMet dy 0 0 y ccy nLy (some .boolean) [.ref r, a0, a1, a2] S σ (rP S P)) (hr : S[r]? = some (.inr (ci, fs))) (hci : vcl[ci]? = some (y.cls, T, N)) (hdp : dy + 1 ≤ d) (hnl : nLy ≤ 13) (hrm : (st.map fun v => v.category).sum ≤ 8) (hkc : kc + 0 ≤ MC) (hks : ks + 0 ≤ MS) (k : ∀ z σ', vIn z → P z σ' → vU sb cx own cc nL d MC MS kc ks pc' L (.int (iI z) :: st) S σ') : vU sb cx own cc nL d MC MS kc ks pc L (a2 :: a1 :: a0 :: .ref r :: st) S σ :=
  u_callV (as := [a0, a1, a2]) hd hl hc hM hr hci rfl hdp hnl hrm hkc hks (fun z S' σ' hz h => by obtain ⟨rfl, h⟩ := h; exact k z σ' hz h)
theorem u_gVI4 {a0 a1 a2 a3 : Value} {P : Int → vMem → Prop} (hd : vD cc pc (.invokevirtual idx) 3 pc') (hl : vMl own idx y 4) (hc : Cond.code y ccy nLy (some .int) ∈ wt) (hM : vMet dy 0 0 y ccy nLy (some .int) [.ref r, a0, a1, a2, a3] S σ (rP S P)) (hr : S[r]? = some (.inr (ci, fs))) (hci : vcl[ci]? = some (y.cls, T, N)) (hdp : dy + 1 ≤ d) (hnl : nLy ≤ 13) (hrm : (st.map fun v => v.category).sum ≤ 8) (hkc : kc + 0 ≤ MC) (hks : ks + 0 ≤ MS) (k : ∀ z σ', vIn z → P z σ' → vU sb cx own cc nL d MC MS kc ks pc' L (.int (iI z) :: st) S σ') : vU sb cx own cc nL d MC MS kc ks pc L (a3 :: a2 :: a1 :: a0 :: .ref r :: st) S σ :=
  u_callV (as := [a0, a1, a2, a3]) hd hl hc hM hr hci rfl hdp hnl hrm hkc hks (fun z S' σ' hz h => by obtain ⟨rfl, h⟩ := h; exact k z σ' hz h)
theorem u_gVZ4 {a0 a1 a2 a3 : Value} {P : Int → vMem → Prop} (hd : vD cc pc (.invokevirtual idx) 3 pc') (hl : vMl own idx y 4) (hc : Cond.code y ccy nLy (some .boolean) ∈ wt) (hM : vMet dy 0 0 y ccy nLy (some .boolean) [.ref r, a0, a1, a2, a3] S σ (rP S P)) (hr : S[r]? = some (.inr (ci, fs))) (hci : vcl[ci]? = some (y.cls, T, N)) (hdp : dy + 1 ≤ d) (hnl : nLy ≤ 13) (hrm : (st.map fun v => v.category).sum ≤ 8) (hkc : kc + 0 ≤ MC) (hks : ks + 0 ≤ MS) (k : ∀ z σ', vIn z → P z σ' → vU sb cx own cc nL d MC MS kc ks pc' L (.int (iI z) :: st) S σ') : vU sb cx own cc nL d MC MS kc ks pc L (a3 :: a2 :: a1 :: a0 :: .ref r :: st) S σ :=
  u_callV (as := [a0, a1, a2, a3]) hd hl hc hM hr hci rfl hdp hnl hrm hkc hks (fun z S' σ' hz h => by obtain ⟨rfl, h⟩ := h; exact k z σ' hz h)
theorem u_gVI5 {a0 a1 a2 a3 a4 : Value} {P : Int → vMem → Prop} (hd : vD cc pc (.invokevirtual idx) 3 pc') (hl : vMl own idx y 5) (hc : Cond.code y ccy nLy (some .int) ∈ wt) (hM : vMet dy 0 0 y ccy nLy (some .int) [.ref r, a0, a1, a2, a3, a4] S σ (rP S P)) (hr : S[r]? = some (.inr (ci, fs))) (hci : vcl[ci]? = some (y.cls, T, N)) (hdp : dy + 1 ≤ d) (hnl : nLy ≤ 13) (hrm : (st.map fun v => v.category).sum ≤ 8) (hkc : kc + 0 ≤ MC) (hks : ks + 0 ≤ MS) (k : ∀ z σ', vIn z → P z σ' → vU sb cx own cc nL d MC MS kc ks pc' L (.int (iI z) :: st) S σ') : vU sb cx own cc nL d MC MS kc ks pc L (a4 :: a3 :: a2 :: a1 :: a0 :: .ref r :: st) S σ :=
  u_callV (as := [a0, a1, a2, a3, a4]) hd hl hc hM hr hci rfl hdp hnl hrm hkc hks (fun z S' σ' hz h => by obtain ⟨rfl, h⟩ := h; exact k z σ' hz h)
theorem u_gVZ5 {a0 a1 a2 a3 a4 : Value} {P : Int → vMem → Prop} (hd : vD cc pc (.invokevirtual idx) 3 pc') (hl : vMl own idx y 5) (hc : Cond.code y ccy nLy (some .boolean) ∈ wt) (hM : vMet dy 0 0 y ccy nLy (some .boolean) [.ref r, a0, a1, a2, a3, a4] S σ (rP S P)) (hr : S[r]? = some (.inr (ci, fs))) (hci : vcl[ci]? = some (y.cls, T, N)) (hdp : dy + 1 ≤ d) (hnl : nLy ≤ 13) (hrm : (st.map fun v => v.category).sum ≤ 8) (hkc : kc + 0 ≤ MC) (hks : ks + 0 ≤ MS) (k : ∀ z σ', vIn z → P z σ' → vU sb cx own cc nL d MC MS kc ks pc' L (.int (iI z) :: st) S σ') : vU sb cx own cc nL d MC MS kc ks pc L (a4 :: a3 :: a2 :: a1 :: a0 :: .ref r :: st) S σ :=
  u_callV (as := [a0, a1, a2, a3, a4]) hd hl hc hM hr hci rfl hdp hnl hrm hkc hks (fun z S' σ' hz h => by obtain ⟨rfl, h⟩ := h; exact k z σ' hz h)
theorem u_gVV0 {P : Int → vMem → Prop} (hd : vD cc pc (.invokevirtual idx) 3 pc') (hl : vMl own idx y 0) (hc : Cond.code y ccy nLy none ∈ wt) (hM : vMet dy 0 0 y ccy nLy none [.ref r] S σ (rP S P)) (hr : S[r]? = some (.inr (ci, fs))) (hci : vcl[ci]? = some (y.cls, T, N)) (hdp : dy + 1 ≤ d) (hnl : nLy ≤ 13) (hrm : (st.map fun v => v.category).sum ≤ 8) (hkc : kc + 0 ≤ MC) (hks : ks + 0 ≤ MS) (k : ∀ z σ', P z σ' → vU sb cx own cc nL d MC MS kc ks pc' L st S σ') : vU sb cx own cc nL d MC MS kc ks pc L (.ref r :: st) S σ :=
  u_callV (as := []) hd hl hc hM hr hci rfl hdp hnl hrm hkc hks (fun z S' σ' hz h => by obtain ⟨rfl, h⟩ := h; exact k z σ' h)
end
theorem okw_village {A : Int → Int} (hO : okA A) {p x y : Int} : okA (wVi A p x y).1 := by
  unfold wVi
  split
  · rename_i h
    exact ok_vi hO h.2.1 h.2.2.1 h.2.2.2 h.1
  · exact hO
theorem far_village {A : Int → Int} (hO : okA A) {p x y : Int} (i : Int) (hi : 3210 ≤ i) : (wVi A p x y).1 i = A i := by
  have q := hO.1
  unfold okHd at q
  unfold wVi
  split
  · rename_i h
    exact vi_e A i (by omega)
  · rfl
theorem okw_weather {A : Int → Int} (hO : okA A) {s p : Int} : okA (wWe A s p).1 := by
  unfold wWe
  split
  · rename_i h
    exact ok_we hO (by have := hO.1.2.2.2.2.1; omega) h.2
  · exact hO
theorem far_weather {A : Int → Int} (hO : okA A) {s p : Int} (i : Int) (hi : 3210 ≤ i) : (wWe A s p).1 i = A i := by
  have q := hO.1
  unfold okHd at q
  unfold wWe
  split
  · rename_i h
    exact we_e A i (by omega)
  · rfl
theorem okw_squeeze {A : Int → Int} (hO : okA A) {v p : Int} : okA (wSq A v p).1 := by
  unfold wSq
  split
  · rename_i h
    exact ok_sq hO h.1 h.2
  · exact hO
theorem far_squeeze {A : Int → Int} (hO : okA A) {v p : Int} (i : Int) (hi : 3210 ≤ i) : (wSq A v p).1 i = A i := by
  have q := hO.1
  unfold okHd at q
  unfold wSq
  split
  · rename_i h
    exact sq_e A i (by omega)
  · rfl
theorem okw_days {A : Int → Int} (hO : okA A) {n : Int} : okA (wDa A n).1 := by
  unfold wDa
  split
  · rename_i h
    exact ok_da hO (by omega)
  · exact hO
theorem far_days {A : Int → Int} (hO : okA A) {n : Int} (i : Int) (hi : 3210 ≤ i) : (wDa A n).1 i = A i := by
  have q := hO.1
  unfold okHd at q
  unfold wDa
  split
  · rename_i h
    exact da_e hO (by omega) (by omega)
  · rfl
theorem okw_officer {A : Int → Int} (hO : okA A) {r k : Int} : okA (wOf A r k).1 := by
  unfold wOf
  split
  · rename_i h
    exact ok_of hO h.2.1 h.2.2 h.1
  · exact hO
theorem far_officer {A : Int → Int} (hO : okA A) {r k : Int} (i : Int) (hi : 3210 ≤ i) : (wOf A r k).1 i = A i := by
  have q := hO.1
  unfold okHd at q
  unfold wOf
  split
  · rename_i h
    exact of_e A i (by omega)
  · rfl
theorem okw_dies {A : Int → Int} (hO : okA A) {oo : Int} : okA (wDi A oo).1 := by
  unfold wDi
  split
  · rename_i h
    exact ok_di hO h.1
  · exact hO
theorem far_dies {A : Int → Int} (hO : okA A) {oo : Int} (i : Int) (hi : 3210 ≤ i) : (wDi A oo).1 i = A i := by
  have q := hO.1
  unfold okHd at q
  unfold wDi
  split
  · rename_i h
    exact di_e A i (by omega)
  · rfl
theorem okw_give {A : Int → Int} (hO : okA A) {v oo dd : Int} : okA (wGi A v oo dd).1 := by
  unfold wGi
  split
  · rename_i h
    exact ok_or hO (Or.inl ⟨rfl, h.2.1.1, h.2.1.2, h.2.2.1.1, h.2.2.1.2⟩) h.2.2.2 h.1
  · exact hO
theorem far_give {A : Int → Int} (hO : okA A) {v oo dd : Int} (i : Int) (hi : 3210 ≤ i) : (wGi A v oo dd).1 i = A i := by
  have q := hO.1
  unfold okHd at q
  unfold wGi
  split
  · rename_i h
    exact or_e A i (by omega)
  · rfl
theorem okw_raise {A : Int → Int} (hO : okA A) {oo r dd : Int} : okA (wRa A oo r dd).1 := by
  unfold wRa
  split
  · rename_i h
    exact ok_or hO (Or.inr ⟨rfl, h.2.2.1.1, h.2.2.1.2, h.2.1.1, h.2.1.2⟩) h.2.2.2 h.1
  · exact hO
theorem far_raise {A : Int → Int} (hO : okA A) {oo r dd : Int} (i : Int) (hi : 3210 ≤ i) : (wRa A oo r dd).1 i = A i := by
  have q := hO.1
  unfold okHd at q
  unfold wRa
  split
  · rename_i h
    exact or_e A i (by omega)
  · rfl
theorem okw_feed {A : Int → Int} (hO : okA A) {a b c d e : Int} : okA (wFe A a b c d e).1 := by
  unfold wFe
  split
  · rename_i h
    exact ok_fdA hO (fB_rng _ _ _ _ _) 20 (by omega)
  · exact hO
theorem far_feed {A : Int → Int} (hO : okA A) {a b c d e : Int} (i : Int) (hi : 3210 ≤ i) : (wFe A a b c d e).1 i = A i := by
  have q := hO.1
  unfold okHd at q
  unfold wFe
  split
  · rename_i h
    exact fdA_off A _ (by omega) 20 (by omega)
  · rfl
theorem okw_end {A : Int → Int} (hO : okA A) {n : Int} : okA (wEn A n).1 := by
  unfold wEn
  split
  · rename_i h
    exact ok_en hO h
  · exact hO
theorem far_end {A : Int → Int} (hO : okA A) {n : Int} (i : Int) (hi : 3210 ≤ i) : (wEn A n).1 i = A i := by
  have q := hO.1
  unfold okHd at q
  unfold wEn
  split
  · rename_i h
    exact en_e A i (by omega)
  · rfl
theorem okw_move {A : Int → Int} (hO : okA A) {oo v : Int} : okA (wMo A oo v).1 := by
  unfold wMo
  split
  · rename_i h
    exact ok_mo hO h.2.2.1.1 h.2.1 h.1
  · exact hO
theorem far_move {A : Int → Int} (hO : okA A) {oo v : Int} (i : Int) (hi : 3210 ≤ i) : (wMo A oo v).1 i = A i := by
  have q := hO.1
  unfold okHd at q
  unfold wMo
  split
  · rename_i h
    exact mo_e A i (by omega)
  · rfl
theorem okw_say {A : Int → Int} (hO : okA A) {w v s c : Int} : okA (wSa A w v s c).1 := by
  unfold wSa
  split
  · rename_i h
    exact ok_sa hO h.2.1 h.2.2.1 h.2.2.2.1 h.2.2.2.2 h.1
  · exact hO
theorem far_say {A : Int → Int} (hO : okA A) {w v s c : Int} (i : Int) (hi : 3210 ≤ i) : (wSa A w v s c).1 i = A i := by
  have q := hO.1
  unfold okHd at q
  unfold wSa
  split
  · rename_i h
    exact sa_e A i (by omega)
  · rfl
theorem imA_lo {A : Int → Int} {k : Int} (hk : 0 ≤ k) (i : Int) (h0 : 0 ≤ i) (h1 : i < 3210) : imA A k i = A i := if_neg (by omega)
theorem WI_old {T : vSh} {σ σ1 σ2 : vMem} {k : Int} (hW : WI T σ) (hk : 0 ≤ k ∧ k ≤ 2) (hz : σ 44 k ≠ 0) (f1 : ∀ x, x < (σ 44 k).toNat + 1 ∨ (σ 44 k).toNat + 40 ≤ x → σ1 x = σ x) (c1 : CRB σ1 (σ 44 k).toNat (σ 56)) (f2 : ∀ x, x ≠ 56 ∧ x ≠ 57 → σ2 x = σ1 x) (h57 : σ2 57 = upF (σ1 57) k 1) (h56 : σ2 56 = imA (σ 56) k) : WI T σ2 := by
  obtain ⟨a1, a2, a3, a4⟩ := hW
  obtain ⟨⟨g1, g2⟩, g3⟩ := (a4 k hk.1 hk.2).2 hz
  have e44 : σ2 44 = σ 44 := by rw [f2 44 (by omega), f1 44 (by omega)]
  have e57 : σ2 57 = upF (σ 57) k 1 := by rw [h57, f1 57 (by omega)]
  refine ⟨by rw [h56]; exact okA_c (imA_lo hk.1) a1, ?_, by rw [e44]; exact a3, fun j j1 j2 => ?_⟩
  · rw [h56]
    refine (CRB_1 _ _).mp (CRB_c a1 (imA_lo hk.1) ((CRB_1 _ _).mpr (CR_off (fun x x1 _ => ?_) ?_ a2)))
    · rw [f2 x (by omega), f1 x (by omega)]
    · rw [f2 38 (by omega), f1 38 (by omega)]
  · unfold WK
    rw [e44, e57, h56]
    by_cases q : j = k
    · subst q
      rw [upF_s]
      refine ⟨⟨fun z => absurd z (by decide), fun z => absurd z hz⟩, fun _ => ⟨⟨g1, g2⟩, g3.1, okA_c (fun i i1 i2 => img_self ⟨i1, i2⟩) a1, CRB_c a1 (fun i i1 i2 => img_self ⟨i1, i2⟩) (CRB_off (fun x x1 x2 => f2 x (by omega)) c1), g3.2.2.2⟩⟩
    · rw [upF_n q, img_im hk.1 j1 q]
      refine ⟨(a4 j j1 j2).1, fun z => ?_⟩
      obtain ⟨b1, b2, b3, b4, b5⟩ := (a4 j j1 j2).2 z
      have hd := b5 k hk.1 hk.2 (fun h => q h.symm) hz
      exact ⟨b1, b2, b3, CRB_off (fun x x1 x2 => by rw [f2 x (by omega), f1 x (by omega)]) b4, b5⟩
theorem WI_new {T : vSh} {σ σ1 σ2 : vMem} {k : Int} (hW : WI T σ) (hk : 0 ≤ k ∧ k ≤ 2) (hz : σ 44 k = 0) (h44 : σ1 44 = upF (σ 44) k ((S0 ++ T).length : Int)) (f1 : ∀ x, x < (S0 ++ T).length → x ≠ 44 → σ1 x = σ x) (c1 : CRB σ1 (S0 ++ T).length (σ 56)) (f2 : ∀ x, x ≠ 56 ∧ x ≠ 57 → σ2 x = σ1 x) (h57 : σ2 57 = upF (σ1 57) k 1) (h56 : σ2 56 = imA (σ 56) k) : WI (T ++ imS (S0 ++ T).length) σ2 := by
  have hl9 := WI_len hW
  obtain ⟨a1, a2, a3, a4⟩ := hW
  have hlen : (S0 ++ T).length = 71 + T.length := by rw [List.length_append]; rfl
  have hlen2 : (T ++ imS (S0 ++ T).length).length = T.length + 43 := by rw [List.length_append, imS_len]
  have e44 : σ2 44 = upF (σ 44) k ((S0 ++ T).length : Int) := by rw [f2 44 (by omega), h44]
  have e57 : σ2 57 = upF (σ 57) k 1 := by rw [h57, f1 57 (by omega) (by decide)]
  have hbz : ((S0 ++ T).length : Int) ≠ 0 := by omega
  refine ⟨by rw [h56]; exact okA_c (imA_lo hk.1) a1, ?_, ?_, fun j j1 j2 => ?_⟩
  · rw [h56]
    refine (CRB_1 _ _).mp (CRB_c a1 (imA_lo hk.1) ((CRB_1 _ _).mpr (CR_off (fun x x1 _ => ?_) ?_ a2)))
    · rw [f2 x (by omega), f1 x (by omega) (by omega)]
    · rw [f2 38 (by omega), f1 38 (by omega) (by decide)]
  · rw [e44, hlen2, a3]
    have n0 : nz 0 = 0 := rfl
    have nb : nz ((S0 ++ T).length : Int) = 1 := if_neg hbz
    rcases (show k = 0 ∨ k = 1 ∨ k = 2 by omega) with rfl | rfl | rfl
    · rw [upF_s, upF_n (by decide), upF_n (by decide), hz, n0, nb]; omega
    · rw [upF_s, upF_n (by decide), upF_n (by decide), hz, n0, nb]; omega
    · rw [upF_s, upF_n (by decide), upF_n (by decide), hz, n0, nb]; omega
  · unfold WK
    rw [e57, h56, ← List.append_assoc, hlen2]
    by_cases q : j = k
    · subst q
      rw [e44, upF_s, upF_s, Int.toNat_natCast]
      refine ⟨⟨fun z => absurd z (by decide), fun z => absurd z hbz⟩, fun _ => ⟨⟨by omega, by omega⟩, IM_new _, okA_c (fun i i1 i2 => img_self ⟨i1, i2⟩) a1, CRB_c a1 (fun i i1 i2 => img_self ⟨i1, i2⟩) (CRB_off (fun x x1 x2 => f2 x (by omega)) c1), fun m m1 m2 m3 m4 => ?_⟩⟩
      rw [upF_n m3] at m4 ⊢
      have := ((a4 m m1 m2).2 m4).1
      omega
    · rw [e44, upF_n q, upF_n q, img_im hk.1 j1 q]
      refine ⟨(a4 j j1 j2).1, fun z => ?_⟩
      obtain ⟨b1, b2, b3, b4, b5⟩ := (a4 j j1 j2).2 z
      refine ⟨by omega, IM_app b2, b3, CRB_off (fun x x1 x2 => by rw [f2 x (by omega), f1 x (by omega) (by omega)]) b4, fun m m1 m2 m3 m4 => ?_⟩
      by_cases q2 : m = k
      · subst q2
        rw [upF_s]
        omega
      · rw [upF_n q2] at m4 ⊢
        exact b5 m m1 m2 m3 m4
theorem WI_again {T : vSh} {σ σ1 σ2 : vMem} {k : Int} (hW : WI T σ) (hk : 0 ≤ k ∧ k ≤ 2) (hz : σ 44 k ≠ 0) (f1 : ∀ x, x < 2 ∨ 41 ≤ x → σ1 x = σ x) (c1 : CR σ1 (img (σ 56) k)) (f2 : ∀ x, x ≠ 56 → σ2 x = σ1 x) (h56 : σ2 56 = agA (σ 56) k) : WI T σ2 := by
  have h9 := (hW.2.2.2 k hk.1 hk.2).2 hz
  have e : ∀ i, 0 ≤ i → i < 3210 → agA (σ 56) k i = img (σ 56) k i := fun i i1 i2 => by
    unfold agA img
    rw [if_pos ⟨i1, i2⟩, if_pos ⟨i1, i2⟩]
  refine WI_step hW (by rw [h56]; exact okA_c e h9.2.2.1) ?_ ((f2 44 (by decide)).trans (f1 44 (by omega))) ((f2 57 (by decide)).trans (f1 57 (by omega))) (fun x hx => (f2 x (by omega)).trans (f1 x (by omega))) (fun i hi => by rw [h56]; exact if_neg (by omega))
  rw [h56]
  refine (CRB_1 _ _).mp (CRB_c h9.2.2.1 e ((CRB_1 _ _).mpr (CR_off (fun x x1 _ => f2 x (by omega)) (by rw [f2 38 (by decide)]) c1)))
theorem law_village {sb Ln kc ks : Nat} {xs : Nat → Int32} {cx : vCx} {T : vSh} {σ : vMem} {i : Int} (hX : vSc sb Ln xs cx) (hLn : Ln ≤ 3072) (hi : 0 ≤ i ∧ i + 6 ≤ (Ln : Int)) (hW : WI T σ) (hkc : kc + 43 ≤ 406970) (hks : ks + 3199 ≤ 7881340) (K : ∀ (T' : vSh) (σ' : vMem) (kc' ks' : Nat), WI T' σ' → kc' ≤ kc + 43 → ks' ≤ ks + 3199 → vU sb cx "VillagePayLaw" code 4 14 406970 7881340 kc' ks' 1517 [none, some (.ref 0), some (.ref 55), some (.int (iI i))] [] (S0 ++ T') σ') : vU sb cx "VillagePayLaw" code 4 14 406970 7881340 kc ks 196 [none, some (.ref 0), some (.ref 55), some (.int (iI i))] [] (S0 ++ T) σ := by
  refine u_aload_n (j := 1) d_L_196 rfl ?_
  refine u_sldk d_L_197 d_L_198 d_L_199 d_L_200 d_L_201 hX rfl (by omega) (by omega) ?_
  refine u_sldk d_L_202 d_L_203 d_L_204 d_L_205 d_L_206 hX rfl (by omega) (by omega) ?_
  refine u_sldk d_L_207 d_L_208 d_L_209 d_L_210 d_L_211 hX rfl (by omega) (by omega) ?_
  refine u_gVI3 d_L_212 l_L_13 k_V_village (x_V_village hW.2.1 hW.1 (vx_in _ _) (vx_in _ _) (vx_in _ _)) (sh_0 T) rfl (by decide) (by decide) (Nat.le_of_ble_eq_true rfl) (by omega) (by omega) (fun z1 s1 g1 e1 => ?_)
  refine u_aload_n (j := 2) d_L_215 rfl ?_
  refine u_sldk d_L_216 d_L_217 d_L_218 d_L_219 d_L_220 hX rfl (by omega) (by omega) ?_
  refine u_sldk d_L_221 d_L_222 d_L_223 d_L_224 d_L_225 hX rfl (by omega) (by omega) ?_
  refine u_sldk d_L_226 d_L_227 d_L_228 d_L_229 d_L_230 hX rfl (by omega) (by omega) ?_
  refine u_gVI3 d_L_231 l_L_17 k_M_village (x_M_village (e1.2.1 56 (by omega)) hW.1 (vx_in _ _) (vx_in _ _) (vx_in _ _)) (sh_55 T) rfl (by decide) (by decide) (Nat.le_of_ble_eq_true rfl) (by omega) (by omega) (fun z2 s2 g2 e2 => ?_)
  refine u_icmp_eq d_L_234 g1 g2 (fun _ => ?_) (fun z9 => absurd (e1.1.trans e2.1.symm) z9)
  exact K T s2 _ _ (WI_both hW (okw_village hW.1) e1.2.1 e1.2.2 e2.2.1 e2.2.2 (far_village hW.1)) (by omega) (by omega)

theorem law_weather {sb Ln kc ks : Nat} {xs : Nat → Int32} {cx : vCx} {T : vSh} {σ : vMem} {i : Int} (hX : vSc sb Ln xs cx) (hLn : Ln ≤ 3072) (hi : 0 ≤ i ∧ i + 6 ≤ (Ln : Int)) (hW : WI T σ) (hkc : kc + 43 ≤ 406970) (hks : ks + 3199 ≤ 7881340) (K : ∀ (T' : vSh) (σ' : vMem) (kc' ks' : Nat), WI T' σ' → kc' ≤ kc + 43 → ks' ≤ ks + 3199 → vU sb cx "VillagePayLaw" code 4 14 406970 7881340 kc' ks' 1517 [none, some (.ref 0), some (.ref 55), some (.int (iI i))] [] (S0 ++ T') σ') : vU sb cx "VillagePayLaw" code 4 14 406970 7881340 kc ks 239 [none, some (.ref 0), some (.ref 55), some (.int (iI i))] [] (S0 ++ T) σ := by
  refine u_aload_n (j := 1) d_L_239 rfl ?_
  refine u_sldk d_L_240 d_L_241 d_L_242 d_L_243 d_L_244 hX rfl (by omega) (by omega) ?_
  refine u_sldk d_L_245 d_L_246 d_L_247 d_L_248 d_L_249 hX rfl (by omega) (by omega) ?_
  refine u_gVZ2 d_L_250 l_L_18 k_V_weather (x_V_weather hW.2.1 hW.1 (vx_in _ _) (vx_in _ _)) (sh_0 T) rfl (by decide) (by decide) (Nat.le_of_ble_eq_true rfl) (by omega) (by omega) (fun z1 s1 g1 e1 => ?_)
  refine u_aload_n (j := 2) d_L_253 rfl ?_
  refine u_sldk d_L_254 d_L_255 d_L_256 d_L_257 d_L_258 hX rfl (by omega) (by omega) ?_
  refine u_sldk d_L_259 d_L_260 d_L_261 d_L_262 d_L_263 hX rfl (by omega) (by omega) ?_
  refine u_gVZ2 d_L_264 l_L_22 k_M_weather (x_M_weather (e1.2.1 56 (by omega)) hW.1 (vx_in _ _) (vx_in _ _)) (sh_55 T) rfl (by decide) (by decide) (Nat.le_of_ble_eq_true rfl) (by omega) (by omega) (fun z2 s2 g2 e2 => ?_)
  refine u_icmp_eq d_L_267 g1 g2 (fun _ => ?_) (fun z9 => absurd (e1.1.trans e2.1.symm) z9)
  exact K T s2 _ _ (WI_both hW (okw_weather hW.1) e1.2.1 e1.2.2 e2.2.1 e2.2.2 (far_weather hW.1)) (by omega) (by omega)

theorem law_squeeze {sb Ln kc ks : Nat} {xs : Nat → Int32} {cx : vCx} {T : vSh} {σ : vMem} {i : Int} (hX : vSc sb Ln xs cx) (hLn : Ln ≤ 3072) (hi : 0 ≤ i ∧ i + 6 ≤ (Ln : Int)) (hW : WI T σ) (hkc : kc + 43 ≤ 406970) (hks : ks + 3199 ≤ 7881340) (K : ∀ (T' : vSh) (σ' : vMem) (kc' ks' : Nat), WI T' σ' → kc' ≤ kc + 43 → ks' ≤ ks + 3199 → vU sb cx "VillagePayLaw" code 4 14 406970 7881340 kc' ks' 1517 [none, some (.ref 0), some (.ref 55), some (.int (iI i))] [] (S0 ++ T') σ') : vU sb cx "VillagePayLaw" code 4 14 406970 7881340 kc ks 272 [none, some (.ref 0), some (.ref 55), some (.int (iI i))] [] (S0 ++ T) σ := by
  refine u_aload_n (j := 1) d_L_272 rfl ?_
  refine u_sldk d_L_273 d_L_274 d_L_275 d_L_276 d_L_277 hX rfl (by omega) (by omega) ?_
  refine u_sldk d_L_278 d_L_279 d_L_280 d_L_281 d_L_282 hX rfl (by omega) (by omega) ?_
  refine u_gVZ2 d_L_283 l_L_23 k_V_squeeze (x_V_squeeze hW.2.1 hW.1 (vx_in _ _) (vx_in _ _)) (sh_0 T) rfl (by decide) (by decide) (Nat.le_of_ble_eq_true rfl) (by omega) (by omega) (fun z1 s1 g1 e1 => ?_)
  refine u_aload_n (j := 2) d_L_286 rfl ?_
  refine u_sldk d_L_287 d_L_288 d_L_289 d_L_290 d_L_291 hX rfl (by omega) (by omega) ?_
  refine u_sldk d_L_292 d_L_293 d_L_294 d_L_295 d_L_296 hX rfl (by omega) (by omega) ?_
  refine u_gVZ2 d_L_297 l_L_26 k_M_squeeze (x_M_squeeze (e1.2.1 56 (by omega)) hW.1 (vx_in _ _) (vx_in _ _)) (sh_55 T) rfl (by decide) (by decide) (Nat.le_of_ble_eq_true rfl) (by omega) (by omega) (fun z2 s2 g2 e2 => ?_)
  refine u_icmp_eq d_L_300 g1 g2 (fun _ => ?_) (fun z9 => absurd (e1.1.trans e2.1.symm) z9)
  exact K T s2 _ _ (WI_both hW (okw_squeeze hW.1) e1.2.1 e1.2.2 e2.2.1 e2.2.2 (far_squeeze hW.1)) (by omega) (by omega)

theorem law_days {sb Ln kc ks : Nat} {xs : Nat → Int32} {cx : vCx} {T : vSh} {σ : vMem} {i : Int} (hX : vSc sb Ln xs cx) (hLn : Ln ≤ 3072) (hi : 0 ≤ i ∧ i + 6 ≤ (Ln : Int)) (hW : WI T σ) (hkc : kc + 43 ≤ 406970) (hks : ks + 3199 ≤ 7881340) (K : ∀ (T' : vSh) (σ' : vMem) (kc' ks' : Nat), WI T' σ' → kc' ≤ kc + 43 → ks' ≤ ks + 3199 → vU sb cx "VillagePayLaw" code 4 14 406970 7881340 kc' ks' 1517 [none, some (.ref 0), some (.ref 55), some (.int (iI i))] [] (S0 ++ T') σ') : vU sb cx "VillagePayLaw" code 4 14 406970 7881340 kc ks 305 [none, some (.ref 0), some (.ref 55), some (.int (iI i))] [] (S0 ++ T) σ := by
  refine u_aload_n (j := 1) d_L_305 rfl ?_
  refine u_sldk d_L_306 d_L_307 d_L_308 d_L_309 d_L_310 hX rfl (by omega) (by omega) ?_
  refine u_gVI1 d_L_311 l_L_27 k_V_days (x_V_days hW.2.1 hW.1 (vx_in _ _)) (sh_0 T) rfl (by decide) (by decide) (Nat.le_of_ble_eq_true rfl) (by omega) (by omega) (fun z1 s1 g1 e1 => ?_)
  refine u_aload_n (j := 2) d_L_314 rfl ?_
  refine u_sldk d_L_315 d_L_316 d_L_317 d_L_318 d_L_319 hX rfl (by omega) (by omega) ?_
  refine u_gVI1 d_L_320 l_L_31 k_M_days (x_M_days (e1.2.1 56 (by omega)) hW.1 (vx_in _ _)) (sh_55 T) rfl (by decide) (by decide) (Nat.le_of_ble_eq_true rfl) (by omega) (by omega) (fun z2 s2 g2 e2 => ?_)
  refine u_icmp_eq d_L_323 g1 g2 (fun _ => ?_) (fun z9 => absurd (e1.1.trans e2.1.symm) z9)
  exact K T s2 _ _ (WI_both hW (okw_days hW.1) e1.2.1 e1.2.2 e2.2.1 e2.2.2 (far_days hW.1)) (by omega) (by omega)

theorem law_come {sb Ln kc ks : Nat} {xs : Nat → Int32} {cx : vCx} {T : vSh} {σ : vMem} {i : Int} (hX : vSc sb Ln xs cx) (hLn : Ln ≤ 3072) (hi : 0 ≤ i ∧ i + 6 ≤ (Ln : Int)) (hW : WI T σ) (hkc : kc + 43 ≤ 406970) (hks : ks + 3199 ≤ 7881340) (K : ∀ (T' : vSh) (σ' : vMem) (kc' ks' : Nat), WI T' σ' → kc' ≤ kc + 43 → ks' ≤ ks + 3199 → vU sb cx "VillagePayLaw" code 4 14 406970 7881340 kc' ks' 1517 [none, some (.ref 0), some (.ref 55), some (.int (iI i))] [] (S0 ++ T') σ') : vU sb cx "VillagePayLaw" code 4 14 406970 7881340 kc ks 328 [none, some (.ref 0), some (.ref 55), some (.int (iI i))] [] (S0 ++ T) σ := by
  refine u_aload_n (j := 1) d_L_328 rfl ?_
  refine u_sldk d_L_329 d_L_330 d_L_331 d_L_332 d_L_333 hX rfl (by omega) (by omega) ?_
  refine u_sldk d_L_334 d_L_335 d_L_336 d_L_337 d_L_338 hX rfl (by omega) (by omega) ?_
  refine u_gVI2 d_L_339 l_L_32 k_V_come (x_V_come hW.2.1 hW.1 (vx_in _ _) (vx_in _ _)) (sh_0 T) rfl (by decide) (by decide) (Nat.le_of_ble_eq_true rfl) (by omega) (by omega) (fun z1 s1 g1 e1 => ?_)
  refine u_aload_n (j := 2) d_L_342 rfl ?_
  refine u_sldk d_L_343 d_L_344 d_L_345 d_L_346 d_L_347 hX rfl (by omega) (by omega) ?_
  refine u_sldk d_L_348 d_L_349 d_L_350 d_L_351 d_L_352 hX rfl (by omega) (by omega) ?_
  refine u_gVI2 d_L_353 l_L_36 k_M_come (x_M_come (e1.2.1 56 (by omega)) hW.1 (vx_in _ _) (vx_in _ _)) (sh_55 T) rfl (by decide) (by decide) (Nat.le_of_ble_eq_true rfl) (by omega) (by omega) (fun z2 s2 g2 e2 => ?_)
  refine u_icmp_eq d_L_356 g1 g2 (fun _ => ?_) (fun z9 => absurd (e1.1.trans e2.1.symm) z9)
  exact K T s2 _ _ (WI_both hW hW.1 e1.2.1 e1.2.2 e2.2.1 e2.2.2 (fun _ _ => rfl)) (by omega) (by omega)

theorem law_about {sb Ln kc ks : Nat} {xs : Nat → Int32} {cx : vCx} {T : vSh} {σ : vMem} {i : Int} (hX : vSc sb Ln xs cx) (hLn : Ln ≤ 3072) (hi : 0 ≤ i ∧ i + 6 ≤ (Ln : Int)) (hW : WI T σ) (hkc : kc + 43 ≤ 406970) (hks : ks + 3199 ≤ 7881340) (K : ∀ (T' : vSh) (σ' : vMem) (kc' ks' : Nat), WI T' σ' → kc' ≤ kc + 43 → ks' ≤ ks + 3199 → vU sb cx "VillagePayLaw" code 4 14 406970 7881340 kc' ks' 1517 [none, some (.ref 0), some (.ref 55), some (.int (iI i))] [] (S0 ++ T') σ') : vU sb cx "VillagePayLaw" code 4 14 406970 7881340 kc ks 361 [none, some (.ref 0), some (.ref 55), some (.int (iI i))] [] (S0 ++ T) σ := by
  refine u_aload_n (j := 1) d_L_361 rfl ?_
  refine u_sldk d_L_362 d_L_363 d_L_364 d_L_365 d_L_366 hX rfl (by omega) (by omega) ?_
  refine u_sldk d_L_367 d_L_368 d_L_369 d_L_370 d_L_371 hX rfl (by omega) (by omega) ?_
  refine u_gVI2 d_L_372 l_L_37 k_V_about (x_V_about hW.2.1 hW.1 (vx_in _ _) (vx_in _ _)) (sh_0 T) rfl (by decide) (by decide) (Nat.le_of_ble_eq_true rfl) (by omega) (by omega) (fun z1 s1 g1 e1 => ?_)
  refine u_aload_n (j := 2) d_L_375 rfl ?_
  refine u_sldk d_L_376 d_L_377 d_L_378 d_L_379 d_L_380 hX rfl (by omega) (by omega) ?_
  refine u_sldk d_L_381 d_L_382 d_L_383 d_L_384 d_L_385 hX rfl (by omega) (by omega) ?_
  refine u_gVI2 d_L_386 l_L_40 k_M_about (x_M_about (e1.2.1 56 (by omega)) hW.1 (vx_in _ _) (vx_in _ _)) (sh_55 T) rfl (by decide) (by decide) (Nat.le_of_ble_eq_true rfl) (by omega) (by omega) (fun z2 s2 g2 e2 => ?_)
  refine u_icmp_eq d_L_389 g1 g2 (fun _ => ?_) (fun z9 => absurd (e1.1.trans e2.1.symm) z9)
  exact K T s2 _ _ (WI_both hW hW.1 e1.2.1 e1.2.2 e2.2.1 e2.2.2 (fun _ _ => rfl)) (by omega) (by omega)

theorem law_officer {sb Ln kc ks : Nat} {xs : Nat → Int32} {cx : vCx} {T : vSh} {σ : vMem} {i : Int} (hX : vSc sb Ln xs cx) (hLn : Ln ≤ 3072) (hi : 0 ≤ i ∧ i + 6 ≤ (Ln : Int)) (hW : WI T σ) (hkc : kc + 43 ≤ 406970) (hks : ks + 3199 ≤ 7881340) (K : ∀ (T' : vSh) (σ' : vMem) (kc' ks' : Nat), WI T' σ' → kc' ≤ kc + 43 → ks' ≤ ks + 3199 → vU sb cx "VillagePayLaw" code 4 14 406970 7881340 kc' ks' 1517 [none, some (.ref 0), some (.ref 55), some (.int (iI i))] [] (S0 ++ T') σ') : vU sb cx "VillagePayLaw" code 4 14 406970 7881340 kc ks 394 [none, some (.ref 0), some (.ref 55), some (.int (iI i))] [] (S0 ++ T) σ := by
  refine u_aload_n (j := 1) d_L_394 rfl ?_
  refine u_sldk d_L_395 d_L_396 d_L_397 d_L_398 d_L_399 hX rfl (by omega) (by omega) ?_
  refine u_sldk d_L_400 d_L_401 d_L_402 d_L_403 d_L_404 hX rfl (by omega) (by omega) ?_
  refine u_gVI2 d_L_405 l_L_41 k_V_officer (x_V_officer hW.2.1 hW.1 (vx_in _ _) (vx_in _ _)) (sh_0 T) rfl (by decide) (by decide) (Nat.le_of_ble_eq_true rfl) (by omega) (by omega) (fun z1 s1 g1 e1 => ?_)
  refine u_aload_n (j := 2) d_L_408 rfl ?_
  refine u_sldk d_L_409 d_L_410 d_L_411 d_L_412 d_L_413 hX rfl (by omega) (by omega) ?_
  refine u_sldk d_L_414 d_L_415 d_L_416 d_L_417 d_L_418 hX rfl (by omega) (by omega) ?_
  refine u_gVI2 d_L_419 l_L_44 k_M_officer (x_M_officer (e1.2.1 56 (by omega)) hW.1 (vx_in _ _) (vx_in _ _)) (sh_55 T) rfl (by decide) (by decide) (Nat.le_of_ble_eq_true rfl) (by omega) (by omega) (fun z2 s2 g2 e2 => ?_)
  refine u_icmp_eq d_L_422 g1 g2 (fun _ => ?_) (fun z9 => absurd (e1.1.trans e2.1.symm) z9)
  exact K T s2 _ _ (WI_both hW (okw_officer hW.1) e1.2.1 e1.2.2 e2.2.1 e2.2.2 (far_officer hW.1)) (by omega) (by omega)

theorem law_dies {sb Ln kc ks : Nat} {xs : Nat → Int32} {cx : vCx} {T : vSh} {σ : vMem} {i : Int} (hX : vSc sb Ln xs cx) (hLn : Ln ≤ 3072) (hi : 0 ≤ i ∧ i + 6 ≤ (Ln : Int)) (hW : WI T σ) (hkc : kc + 43 ≤ 406970) (hks : ks + 3199 ≤ 7881340) (K : ∀ (T' : vSh) (σ' : vMem) (kc' ks' : Nat), WI T' σ' → kc' ≤ kc + 43 → ks' ≤ ks + 3199 → vU sb cx "VillagePayLaw" code 4 14 406970 7881340 kc' ks' 1517 [none, some (.ref 0), some (.ref 55), some (.int (iI i))] [] (S0 ++ T') σ') : vU sb cx "VillagePayLaw" code 4 14 406970 7881340 kc ks 427 [none, some (.ref 0), some (.ref 55), some (.int (iI i))] [] (S0 ++ T) σ := by
  refine u_aload_n (j := 1) d_L_427 rfl ?_
  refine u_sldk d_L_428 d_L_429 d_L_430 d_L_431 d_L_432 hX rfl (by omega) (by omega) ?_
  refine u_gVZ1 d_L_433 l_L_45 k_V_dies (x_V_dies hW.2.1 hW.1 (vx_in _ _)) (sh_0 T) rfl (by decide) (by decide) (Nat.le_of_ble_eq_true rfl) (by omega) (by omega) (fun z1 s1 g1 e1 => ?_)
  refine u_aload_n (j := 2) d_L_436 rfl ?_
  refine u_sldk d_L_437 d_L_438 d_L_439 d_L_440 d_L_441 hX rfl (by omega) (by omega) ?_
  refine u_gVZ1 d_L_442 l_L_49 k_M_dies (x_M_dies (e1.2.1 56 (by omega)) hW.1 (vx_in _ _)) (sh_55 T) rfl (by decide) (by decide) (Nat.le_of_ble_eq_true rfl) (by omega) (by omega) (fun z2 s2 g2 e2 => ?_)
  refine u_icmp_eq d_L_445 g1 g2 (fun _ => ?_) (fun z9 => absurd (e1.1.trans e2.1.symm) z9)
  exact K T s2 _ _ (WI_both hW (okw_dies hW.1) e1.2.1 e1.2.2 e2.2.1 e2.2.2 (far_dies hW.1)) (by omega) (by omega)

theorem law_give {sb Ln kc ks : Nat} {xs : Nat → Int32} {cx : vCx} {T : vSh} {σ : vMem} {i : Int} (hX : vSc sb Ln xs cx) (hLn : Ln ≤ 3072) (hi : 0 ≤ i ∧ i + 6 ≤ (Ln : Int)) (hW : WI T σ) (hkc : kc + 43 ≤ 406970) (hks : ks + 3199 ≤ 7881340) (K : ∀ (T' : vSh) (σ' : vMem) (kc' ks' : Nat), WI T' σ' → kc' ≤ kc + 43 → ks' ≤ ks + 3199 → vU sb cx "VillagePayLaw" code 4 14 406970 7881340 kc' ks' 1517 [none, some (.ref 0), some (.ref 55), some (.int (iI i))] [] (S0 ++ T') σ') : vU sb cx "VillagePayLaw" code 4 14 406970 7881340 kc ks 450 [none, some (.ref 0), some (.ref 55), some (.int (iI i))] [] (S0 ++ T) σ := by
  refine u_aload_n (j := 1) d_L_450 rfl ?_
  refine u_sldk d_L_451 d_L_452 d_L_453 d_L_454 d_L_455 hX rfl (by omega) (by omega) ?_
  refine u_sldk d_L_456 d_L_457 d_L_458 d_L_459 d_L_460 hX rfl (by omega) (by omega) ?_
  refine u_sldk d_L_461 d_L_462 d_L_463 d_L_464 d_L_465 hX rfl (by omega) (by omega) ?_
  refine u_gVI3 d_L_466 l_L_50 k_V_give (x_V_give hW.2.1 hW.1 (vx_in _ _) (vx_in _ _) (vx_in _ _)) (sh_0 T) rfl (by decide) (by decide) (Nat.le_of_ble_eq_true rfl) (by omega) (by omega) (fun z1 s1 g1 e1 => ?_)
  refine u_aload_n (j := 2) d_L_469 rfl ?_
  refine u_sldk d_L_470 d_L_471 d_L_472 d_L_473 d_L_474 hX rfl (by omega) (by omega) ?_
  refine u_sldk d_L_475 d_L_476 d_L_477 d_L_478 d_L_479 hX rfl (by omega) (by omega) ?_
  refine u_sldk d_L_480 d_L_481 d_L_482 d_L_483 d_L_484 hX rfl (by omega) (by omega) ?_
  refine u_gVI3 d_L_485 l_L_53 k_M_give (x_M_give (e1.2.1 56 (by omega)) hW.1 (vx_in _ _) (vx_in _ _) (vx_in _ _)) (sh_55 T) rfl (by decide) (by decide) (Nat.le_of_ble_eq_true rfl) (by omega) (by omega) (fun z2 s2 g2 e2 => ?_)
  refine u_icmp_eq d_L_488 g1 g2 (fun _ => ?_) (fun z9 => absurd (e1.1.trans e2.1.symm) z9)
  exact K T s2 _ _ (WI_both hW (okw_give hW.1) e1.2.1 e1.2.2 e2.2.1 e2.2.2 (far_give hW.1)) (by omega) (by omega)

theorem law_raise {sb Ln kc ks : Nat} {xs : Nat → Int32} {cx : vCx} {T : vSh} {σ : vMem} {i : Int} (hX : vSc sb Ln xs cx) (hLn : Ln ≤ 3072) (hi : 0 ≤ i ∧ i + 6 ≤ (Ln : Int)) (hW : WI T σ) (hkc : kc + 43 ≤ 406970) (hks : ks + 3199 ≤ 7881340) (K : ∀ (T' : vSh) (σ' : vMem) (kc' ks' : Nat), WI T' σ' → kc' ≤ kc + 43 → ks' ≤ ks + 3199 → vU sb cx "VillagePayLaw" code 4 14 406970 7881340 kc' ks' 1517 [none, some (.ref 0), some (.ref 55), some (.int (iI i))] [] (S0 ++ T') σ') : vU sb cx "VillagePayLaw" code 4 14 406970 7881340 kc ks 493 [none, some (.ref 0), some (.ref 55), some (.int (iI i))] [] (S0 ++ T) σ := by
  refine u_aload_n (j := 1) d_L_493 rfl ?_
  refine u_sldk d_L_494 d_L_495 d_L_496 d_L_497 d_L_498 hX rfl (by omega) (by omega) ?_
  refine u_sldk d_L_499 d_L_500 d_L_501 d_L_502 d_L_503 hX rfl (by omega) (by omega) ?_
  refine u_sldk d_L_504 d_L_505 d_L_506 d_L_507 d_L_508 hX rfl (by omega) (by omega) ?_
  refine u_gVI3 d_L_509 l_L_54 k_V_raise (x_V_raise hW.2.1 hW.1 (vx_in _ _) (vx_in _ _) (vx_in _ _)) (sh_0 T) rfl (by decide) (by decide) (Nat.le_of_ble_eq_true rfl) (by omega) (by omega) (fun z1 s1 g1 e1 => ?_)
  refine u_aload_n (j := 2) d_L_512 rfl ?_
  refine u_sldk d_L_513 d_L_514 d_L_515 d_L_516 d_L_517 hX rfl (by omega) (by omega) ?_
  refine u_sldk d_L_518 d_L_519 d_L_520 d_L_521 d_L_522 hX rfl (by omega) (by omega) ?_
  refine u_sldk d_L_523 d_L_524 d_L_525 d_L_526 d_L_527 hX rfl (by omega) (by omega) ?_
  refine u_gVI3 d_L_528 l_L_57 k_M_raise (x_M_raise (e1.2.1 56 (by omega)) hW.1 (vx_in _ _) (vx_in _ _) (vx_in _ _)) (sh_55 T) rfl (by decide) (by decide) (Nat.le_of_ble_eq_true rfl) (by omega) (by omega) (fun z2 s2 g2 e2 => ?_)
  refine u_icmp_eq d_L_531 g1 g2 (fun _ => ?_) (fun z9 => absurd (e1.1.trans e2.1.symm) z9)
  exact K T s2 _ _ (WI_both hW (okw_raise hW.1) e1.2.1 e1.2.2 e2.2.1 e2.2.2 (far_raise hW.1)) (by omega) (by omega)

theorem law_order {sb Ln kc ks : Nat} {xs : Nat → Int32} {cx : vCx} {T : vSh} {σ : vMem} {i : Int} (hX : vSc sb Ln xs cx) (hLn : Ln ≤ 3072) (hi : 0 ≤ i ∧ i + 6 ≤ (Ln : Int)) (hW : WI T σ) (hkc : kc + 43 ≤ 406970) (hks : ks + 3199 ≤ 7881340) (K : ∀ (T' : vSh) (σ' : vMem) (kc' ks' : Nat), WI T' σ' → kc' ≤ kc + 43 → ks' ≤ ks + 3199 → vU sb cx "VillagePayLaw" code 4 14 406970 7881340 kc' ks' 1517 [none, some (.ref 0), some (.ref 55), some (.int (iI i))] [] (S0 ++ T') σ') : vU sb cx "VillagePayLaw" code 4 14 406970 7881340 kc ks 536 [none, some (.ref 0), some (.ref 55), some (.int (iI i))] [] (S0 ++ T) σ := by
  refine u_aload_n (j := 1) d_L_536 rfl ?_
  refine u_sldk d_L_537 d_L_538 d_L_539 d_L_540 d_L_541 hX rfl (by omega) (by omega) ?_
  refine u_sldk d_L_542 d_L_543 d_L_544 d_L_545 d_L_546 hX rfl (by omega) (by omega) ?_
  refine u_gVI2 d_L_547 l_L_58 k_V_order (x_V_order hW.2.1 hW.1 (vx_in _ _) (vx_in _ _)) (sh_0 T) rfl (by decide) (by decide) (Nat.le_of_ble_eq_true rfl) (by omega) (by omega) (fun z1 s1 g1 e1 => ?_)
  refine u_aload_n (j := 2) d_L_550 rfl ?_
  refine u_sldk d_L_551 d_L_552 d_L_553 d_L_554 d_L_555 hX rfl (by omega) (by omega) ?_
  refine u_sldk d_L_556 d_L_557 d_L_558 d_L_559 d_L_560 hX rfl (by omega) (by omega) ?_
  refine u_gVI2 d_L_561 l_L_61 k_M_order (x_M_order (e1.2.1 56 (by omega)) hW.1 (vx_in _ _) (vx_in _ _)) (sh_55 T) rfl (by decide) (by decide) (Nat.le_of_ble_eq_true rfl) (by omega) (by omega) (fun z2 s2 g2 e2 => ?_)
  refine u_icmp_eq d_L_564 g1 g2 (fun _ => ?_) (fun z9 => absurd (e1.1.trans e2.1.symm) z9)
  exact K T s2 _ _ (WI_both hW hW.1 e1.2.1 e1.2.2 e2.2.1 e2.2.2 (fun _ _ => rfl)) (by omega) (by omega)

theorem law_holder {sb Ln kc ks : Nat} {xs : Nat → Int32} {cx : vCx} {T : vSh} {σ : vMem} {i : Int} (hX : vSc sb Ln xs cx) (hLn : Ln ≤ 3072) (hi : 0 ≤ i ∧ i + 6 ≤ (Ln : Int)) (hW : WI T σ) (hkc : kc + 43 ≤ 406970) (hks : ks + 3199 ≤ 7881340) (K : ∀ (T' : vSh) (σ' : vMem) (kc' ks' : Nat), WI T' σ' → kc' ≤ kc + 43 → ks' ≤ ks + 3199 → vU sb cx "VillagePayLaw" code 4 14 406970 7881340 kc' ks' 1517 [none, some (.ref 0), some (.ref 55), some (.int (iI i))] [] (S0 ++ T') σ') : vU sb cx "VillagePayLaw" code 4 14 406970 7881340 kc ks 569 [none, some (.ref 0), some (.ref 55), some (.int (iI i))] [] (S0 ++ T) σ := by
  refine u_aload_n (j := 1) d_L_569 rfl ?_
  refine u_sldk d_L_570 d_L_571 d_L_572 d_L_573 d_L_574 hX rfl (by omega) (by omega) ?_
  refine u_sldk d_L_575 d_L_576 d_L_577 d_L_578 d_L_579 hX rfl (by omega) (by omega) ?_
  refine u_sldk d_L_580 d_L_581 d_L_582 d_L_583 d_L_584 hX rfl (by omega) (by omega) ?_
  refine u_gVI3 d_L_585 l_L_62 k_V_holder (x_V_holder hW.2.1 hW.1 (vx_in _ _) (vx_in _ _) (vx_in _ _)) (sh_0 T) rfl (by decide) (by decide) (Nat.le_of_ble_eq_true rfl) (by omega) (by omega) (fun z1 s1 g1 e1 => ?_)
  refine u_aload_n (j := 2) d_L_588 rfl ?_
  refine u_sldk d_L_589 d_L_590 d_L_591 d_L_592 d_L_593 hX rfl (by omega) (by omega) ?_
  refine u_sldk d_L_594 d_L_595 d_L_596 d_L_597 d_L_598 hX rfl (by omega) (by omega) ?_
  refine u_sldk d_L_599 d_L_600 d_L_601 d_L_602 d_L_603 hX rfl (by omega) (by omega) ?_
  refine u_gVI3 d_L_604 l_L_65 k_M_holder (x_M_holder (e1.2.1 56 (by omega)) hW.1 (vx_in _ _) (vx_in _ _) (vx_in _ _)) (sh_55 T) rfl (by decide) (by decide) (Nat.le_of_ble_eq_true rfl) (by omega) (by omega) (fun z2 s2 g2 e2 => ?_)
  refine u_icmp_eq d_L_607 g1 g2 (fun _ => ?_) (fun z9 => absurd (e1.1.trans e2.1.symm) z9)
  exact K T s2 _ _ (WI_both hW hW.1 e1.2.1 e1.2.2 e2.2.1 e2.2.2 (fun _ _ => rfl)) (by omega) (by omega)

theorem law_rank {sb Ln kc ks : Nat} {xs : Nat → Int32} {cx : vCx} {T : vSh} {σ : vMem} {i : Int} (hX : vSc sb Ln xs cx) (hLn : Ln ≤ 3072) (hi : 0 ≤ i ∧ i + 6 ≤ (Ln : Int)) (hW : WI T σ) (hkc : kc + 43 ≤ 406970) (hks : ks + 3199 ≤ 7881340) (K : ∀ (T' : vSh) (σ' : vMem) (kc' ks' : Nat), WI T' σ' → kc' ≤ kc + 43 → ks' ≤ ks + 3199 → vU sb cx "VillagePayLaw" code 4 14 406970 7881340 kc' ks' 1517 [none, some (.ref 0), some (.ref 55), some (.int (iI i))] [] (S0 ++ T') σ') : vU sb cx "VillagePayLaw" code 4 14 406970 7881340 kc ks 612 [none, some (.ref 0), some (.ref 55), some (.int (iI i))] [] (S0 ++ T) σ := by
  refine u_aload_n (j := 1) d_L_612 rfl ?_
  refine u_sldk d_L_613 d_L_614 d_L_615 d_L_616 d_L_617 hX rfl (by omega) (by omega) ?_
  refine u_sldk d_L_618 d_L_619 d_L_620 d_L_621 d_L_622 hX rfl (by omega) (by omega) ?_
  refine u_sldk d_L_623 d_L_624 d_L_625 d_L_626 d_L_627 hX rfl (by omega) (by omega) ?_
  refine u_gVI3 d_L_628 l_L_66 k_V_rank (x_V_rank hW.2.1 hW.1 (vx_in _ _) (vx_in _ _) (vx_in _ _)) (sh_0 T) rfl (by decide) (by decide) (Nat.le_of_ble_eq_true rfl) (by omega) (by omega) (fun z1 s1 g1 e1 => ?_)
  refine u_aload_n (j := 2) d_L_631 rfl ?_
  refine u_sldk d_L_632 d_L_633 d_L_634 d_L_635 d_L_636 hX rfl (by omega) (by omega) ?_
  refine u_sldk d_L_637 d_L_638 d_L_639 d_L_640 d_L_641 hX rfl (by omega) (by omega) ?_
  refine u_sldk d_L_642 d_L_643 d_L_644 d_L_645 d_L_646 hX rfl (by omega) (by omega) ?_
  refine u_gVI3 d_L_647 l_L_69 k_M_rank (x_M_rank (e1.2.1 56 (by omega)) hW.1 (vx_in _ _) (vx_in _ _) (vx_in _ _)) (sh_55 T) rfl (by decide) (by decide) (Nat.le_of_ble_eq_true rfl) (by omega) (by omega) (fun z2 s2 g2 e2 => ?_)
  refine u_icmp_eq d_L_650 g1 g2 (fun _ => ?_) (fun z9 => absurd (e1.1.trans e2.1.symm) z9)
  exact K T s2 _ _ (WI_both hW hW.1 e1.2.1 e1.2.2 e2.2.1 e2.2.2 (fun _ _ => rfl)) (by omega) (by omega)

theorem law_had {sb Ln kc ks : Nat} {xs : Nat → Int32} {cx : vCx} {T : vSh} {σ : vMem} {i : Int} (hX : vSc sb Ln xs cx) (hLn : Ln ≤ 3072) (hi : 0 ≤ i ∧ i + 6 ≤ (Ln : Int)) (hW : WI T σ) (hkc : kc + 43 ≤ 406970) (hks : ks + 3199 ≤ 7881340) (K : ∀ (T' : vSh) (σ' : vMem) (kc' ks' : Nat), WI T' σ' → kc' ≤ kc + 43 → ks' ≤ ks + 3199 → vU sb cx "VillagePayLaw" code 4 14 406970 7881340 kc' ks' 1517 [none, some (.ref 0), some (.ref 55), some (.int (iI i))] [] (S0 ++ T') σ') : vU sb cx "VillagePayLaw" code 4 14 406970 7881340 kc ks 655 [none, some (.ref 0), some (.ref 55), some (.int (iI i))] [] (S0 ++ T) σ := by
  refine u_aload_n (j := 1) d_L_655 rfl ?_
  refine u_sldk d_L_656 d_L_657 d_L_658 d_L_659 d_L_660 hX rfl (by omega) (by omega) ?_
  refine u_sldk d_L_661 d_L_662 d_L_663 d_L_664 d_L_665 hX rfl (by omega) (by omega) ?_
  refine u_sldk d_L_666 d_L_667 d_L_668 d_L_669 d_L_670 hX rfl (by omega) (by omega) ?_
  refine u_gVI3 d_L_671 l_L_70 k_V_had (x_V_had hW.2.1 hW.1 (vx_in _ _) (vx_in _ _) (vx_in _ _)) (sh_0 T) rfl (by decide) (by decide) (Nat.le_of_ble_eq_true rfl) (by omega) (by omega) (fun z1 s1 g1 e1 => ?_)
  refine u_aload_n (j := 2) d_L_674 rfl ?_
  refine u_sldk d_L_675 d_L_676 d_L_677 d_L_678 d_L_679 hX rfl (by omega) (by omega) ?_
  refine u_sldk d_L_680 d_L_681 d_L_682 d_L_683 d_L_684 hX rfl (by omega) (by omega) ?_
  refine u_sldk d_L_685 d_L_686 d_L_687 d_L_688 d_L_689 hX rfl (by omega) (by omega) ?_
  refine u_gVI3 d_L_690 l_L_73 k_M_had (x_M_had (e1.2.1 56 (by omega)) hW.1 (vx_in _ _) (vx_in _ _) (vx_in _ _)) (sh_55 T) rfl (by decide) (by decide) (Nat.le_of_ble_eq_true rfl) (by omega) (by omega) (fun z2 s2 g2 e2 => ?_)
  refine u_icmp_eq d_L_693 g1 g2 (fun _ => ?_) (fun z9 => absurd (e1.1.trans e2.1.symm) z9)
  exact K T s2 _ _ (WI_both hW hW.1 e1.2.1 e1.2.2 e2.2.1 e2.2.2 (fun _ _ => rfl)) (by omega) (by omega)

theorem law_feed {sb Ln kc ks : Nat} {xs : Nat → Int32} {cx : vCx} {T : vSh} {σ : vMem} {i : Int} (hX : vSc sb Ln xs cx) (hLn : Ln ≤ 3072) (hi : 0 ≤ i ∧ i + 6 ≤ (Ln : Int)) (hW : WI T σ) (hkc : kc + 43 ≤ 406970) (hks : ks + 3199 ≤ 7881340) (K : ∀ (T' : vSh) (σ' : vMem) (kc' ks' : Nat), WI T' σ' → kc' ≤ kc + 43 → ks' ≤ ks + 3199 → vU sb cx "VillagePayLaw" code 4 14 406970 7881340 kc' ks' 1517 [none, some (.ref 0), some (.ref 55), some (.int (iI i))] [] (S0 ++ T') σ') : vU sb cx "VillagePayLaw" code 4 14 406970 7881340 kc ks 698 [none, some (.ref 0), some (.ref 55), some (.int (iI i))] [] (S0 ++ T) σ := by
  refine u_aload_n (j := 1) d_L_698 rfl ?_
  refine u_sldk d_L_699 d_L_700 d_L_701 d_L_702 d_L_703 hX rfl (by omega) (by omega) ?_
  refine u_sldk d_L_704 d_L_705 d_L_706 d_L_707 d_L_708 hX rfl (by omega) (by omega) ?_
  refine u_sldk d_L_709 d_L_710 d_L_711 d_L_712 d_L_713 hX rfl (by omega) (by omega) ?_
  refine u_sldk d_L_714 d_L_715 d_L_716 d_L_717 d_L_718 hX rfl (by omega) (by omega) ?_
  refine u_sldk d_L_719 d_L_720 d_L_721 d_L_722 d_L_723 hX rfl (by omega) (by omega) ?_
  refine u_gVI5 d_L_724 l_L_74 k_V_feed (x_V_feed hW.2.1 hW.1 (vx_in _ _) (vx_in _ _) (vx_in _ _) (vx_in _ _) (vx_in _ _)) (sh_0 T) rfl (by decide) (by decide) (Nat.le_of_ble_eq_true rfl) (by omega) (by omega) (fun z1 s1 g1 e1 => ?_)
  refine u_aload_n (j := 2) d_L_727 rfl ?_
  refine u_sldk d_L_728 d_L_729 d_L_730 d_L_731 d_L_732 hX rfl (by omega) (by omega) ?_
  refine u_sldk d_L_733 d_L_734 d_L_735 d_L_736 d_L_737 hX rfl (by omega) (by omega) ?_
  refine u_sldk d_L_738 d_L_739 d_L_740 d_L_741 d_L_742 hX rfl (by omega) (by omega) ?_
  refine u_sldk d_L_743 d_L_744 d_L_745 d_L_746 d_L_747 hX rfl (by omega) (by omega) ?_
  refine u_sldk d_L_748 d_L_749 d_L_750 d_L_751 d_L_752 hX rfl (by omega) (by omega) ?_
  refine u_gVI5 d_L_753 l_L_78 k_M_feed (x_M_feed (e1.2.1 56 (by omega)) hW.1 (vx_in _ _) (vx_in _ _) (vx_in _ _) (vx_in _ _) (vx_in _ _)) (sh_55 T) rfl (by decide) (by decide) (Nat.le_of_ble_eq_true rfl) (by omega) (by omega) (fun z2 s2 g2 e2 => ?_)
  refine u_icmp_eq d_L_756 g1 g2 (fun _ => ?_) (fun z9 => absurd (e1.1.trans e2.1.symm) z9)
  exact K T s2 _ _ (WI_both hW (okw_feed hW.1) e1.2.1 e1.2.2 e2.2.1 e2.2.2 (far_feed hW.1)) (by omega) (by omega)

theorem law_end {sb Ln kc ks : Nat} {xs : Nat → Int32} {cx : vCx} {T : vSh} {σ : vMem} {i : Int} (hX : vSc sb Ln xs cx) (hLn : Ln ≤ 3072) (hi : 0 ≤ i ∧ i + 6 ≤ (Ln : Int)) (hW : WI T σ) (hkc : kc + 43 ≤ 406970) (hks : ks + 3199 ≤ 7881340) (K : ∀ (T' : vSh) (σ' : vMem) (kc' ks' : Nat), WI T' σ' → kc' ≤ kc + 43 → ks' ≤ ks + 3199 → vU sb cx "VillagePayLaw" code 4 14 406970 7881340 kc' ks' 1517 [none, some (.ref 0), some (.ref 55), some (.int (iI i))] [] (S0 ++ T') σ') : vU sb cx "VillagePayLaw" code 4 14 406970 7881340 kc ks 761 [none, some (.ref 0), some (.ref 55), some (.int (iI i))] [] (S0 ++ T) σ := by
  refine u_aload_n (j := 1) d_L_761 rfl ?_
  refine u_sldk d_L_762 d_L_763 d_L_764 d_L_765 d_L_766 hX rfl (by omega) (by omega) ?_
  refine u_gVI1 d_L_767 l_L_79 k_V_end (x_V_end hW.2.1 hW.1 (vx_in _ _)) (sh_0 T) rfl (by decide) (by decide) (Nat.le_of_ble_eq_true rfl) (by omega) (by omega) (fun z1 s1 g1 e1 => ?_)
  refine u_aload_n (j := 2) d_L_770 rfl ?_
  refine u_sldk d_L_771 d_L_772 d_L_773 d_L_774 d_L_775 hX rfl (by omega) (by omega) ?_
  refine u_gVI1 d_L_776 l_L_82 k_M_end (x_M_end (e1.2.1 56 (by omega)) hW.1 (vx_in _ _)) (sh_55 T) rfl (by decide) (by decide) (Nat.le_of_ble_eq_true rfl) (by omega) (by omega) (fun z2 s2 g2 e2 => ?_)
  refine u_icmp_eq d_L_779 g1 g2 (fun _ => ?_) (fun z9 => absurd (e1.1.trans e2.1.symm) z9)
  exact K T s2 _ _ (WI_both hW (okw_end hW.1) e1.2.1 e1.2.2 e2.2.1 e2.2.2 (far_end hW.1)) (by omega) (by omega)

theorem law_reign {sb Ln kc ks : Nat} {xs : Nat → Int32} {cx : vCx} {T : vSh} {σ : vMem} {i : Int} (hX : vSc sb Ln xs cx) (hLn : Ln ≤ 3072) (hi : 0 ≤ i ∧ i + 6 ≤ (Ln : Int)) (hW : WI T σ) (hkc : kc + 43 ≤ 406970) (hks : ks + 3199 ≤ 7881340) (K : ∀ (T' : vSh) (σ' : vMem) (kc' ks' : Nat), WI T' σ' → kc' ≤ kc + 43 → ks' ≤ ks + 3199 → vU sb cx "VillagePayLaw" code 4 14 406970 7881340 kc' ks' 1517 [none, some (.ref 0), some (.ref 55), some (.int (iI i))] [] (S0 ++ T') σ') : vU sb cx "VillagePayLaw" code 4 14 406970 7881340 kc ks 784 [none, some (.ref 0), some (.ref 55), some (.int (iI i))] [] (S0 ++ T) σ := by
  refine u_aload_n (j := 1) d_L_784 rfl ?_
  refine u_sldk d_L_785 d_L_786 d_L_787 d_L_788 d_L_789 hX rfl (by omega) (by omega) ?_
  refine u_gVI1 d_L_790 l_L_83 k_V_reign (x_V_reign hW.2.1 hW.1 (vx_in _ _) (C := σ 59)) (sh_0 T) rfl (by decide) (by decide) (Nat.le_of_ble_eq_true rfl) (by omega) (by omega) (fun z1 s1 g1 e1 => ?_)
  refine u_aload_n (j := 2) d_L_793 rfl ?_
  refine u_sldk d_L_794 d_L_795 d_L_796 d_L_797 d_L_798 hX rfl (by omega) (by omega) ?_
  refine u_gVI1 d_L_799 l_L_86 k_M_reign (x_M_reign (e1.2.1 56 (by omega)) hW.1 (vx_in _ _) (C := σ 59) (e1.2.1 59 (by omega))) (sh_55 T) rfl (by decide) (by decide) (Nat.le_of_ble_eq_true rfl) (by omega) (by omega) (fun z2 s2 g2 e2 => ?_)
  refine u_icmp_eq d_L_802 g1 g2 (fun _ => ?_) (fun z9 => absurd (e1.1.trans e2.1.symm) z9)
  exact K T s2 _ _ (WI_both hW (ok_re hW.1 _ _) e1.2.1 e1.2.2 e2.2.1 e2.2.2 (fun j hj => re_e hW.1 _ _ hj)) (by omega) (by omega)

theorem law_fault {sb Ln kc ks : Nat} {xs : Nat → Int32} {cx : vCx} {T : vSh} {σ : vMem} {i : Int} (hX : vSc sb Ln xs cx) (hLn : Ln ≤ 3072) (hi : 0 ≤ i ∧ i + 6 ≤ (Ln : Int)) (hW : WI T σ) (hkc : kc + 43 ≤ 406970) (hks : ks + 3199 ≤ 7881340) (K : ∀ (T' : vSh) (σ' : vMem) (kc' ks' : Nat), WI T' σ' → kc' ≤ kc + 43 → ks' ≤ ks + 3199 → vU sb cx "VillagePayLaw" code 4 14 406970 7881340 kc' ks' 1517 [none, some (.ref 0), some (.ref 55), some (.int (iI i))] [] (S0 ++ T') σ') : vU sb cx "VillagePayLaw" code 4 14 406970 7881340 kc ks 807 [none, some (.ref 0), some (.ref 55), some (.int (iI i))] [] (S0 ++ T) σ := by
  refine u_aload_n (j := 1) d_L_807 rfl ?_
  refine u_sldk d_L_808 d_L_809 d_L_810 d_L_811 d_L_812 hX rfl (by omega) (by omega) ?_
  refine u_gVI1 d_L_813 l_L_87 k_V_fault (x_V_fault hW.2.1 hW.1 (vx_in _ _)) (sh_0 T) rfl (by decide) (by decide) (Nat.le_of_ble_eq_true rfl) (by omega) (by omega) (fun z1 s1 g1 e1 => ?_)
  refine u_aload_n (j := 2) d_L_816 rfl ?_
  refine u_sldk d_L_817 d_L_818 d_L_819 d_L_820 d_L_821 hX rfl (by omega) (by omega) ?_
  refine u_gVI1 d_L_822 l_L_90 k_M_fault (x_M_fault (e1.2.1 56 (by omega)) hW.1 (vx_in _ _)) (sh_55 T) rfl (by decide) (by decide) (Nat.le_of_ble_eq_true rfl) (by omega) (by omega) (fun z2 s2 g2 e2 => ?_)
  refine u_icmp_eq d_L_825 g1 g2 (fun _ => ?_) (fun z9 => absurd (e1.1.trans e2.1.symm) z9)
  exact K T s2 _ _ (WI_both hW hW.1 e1.2.1 e1.2.2 e2.2.1 e2.2.2 (fun _ _ => rfl)) (by omega) (by omega)

theorem law_scale {sb Ln kc ks : Nat} {xs : Nat → Int32} {cx : vCx} {T : vSh} {σ : vMem} {i : Int} (hX : vSc sb Ln xs cx) (hLn : Ln ≤ 3072) (hi : 0 ≤ i ∧ i + 6 ≤ (Ln : Int)) (hW : WI T σ) (hkc : kc + 43 ≤ 406970) (hks : ks + 3199 ≤ 7881340) (K : ∀ (T' : vSh) (σ' : vMem) (kc' ks' : Nat), WI T' σ' → kc' ≤ kc + 43 → ks' ≤ ks + 3199 → vU sb cx "VillagePayLaw" code 4 14 406970 7881340 kc' ks' 1517 [none, some (.ref 0), some (.ref 55), some (.int (iI i))] [] (S0 ++ T') σ') : vU sb cx "VillagePayLaw" code 4 14 406970 7881340 kc ks 830 [none, some (.ref 0), some (.ref 55), some (.int (iI i))] [] (S0 ++ T) σ := by
  refine u_aload_n (j := 1) d_L_830 rfl ?_
  refine u_sldk d_L_831 d_L_832 d_L_833 d_L_834 d_L_835 hX rfl (by omega) (by omega) ?_
  refine u_sldk d_L_836 d_L_837 d_L_838 d_L_839 d_L_840 hX rfl (by omega) (by omega) ?_
  refine u_sldk d_L_841 d_L_842 d_L_843 d_L_844 d_L_845 hX rfl (by omega) (by omega) ?_
  refine u_sldk d_L_846 d_L_847 d_L_848 d_L_849 d_L_850 hX rfl (by omega) (by omega) ?_
  refine u_gVI4 d_L_851 l_L_91 k_V_scale (x_V_scale hW.2.1 hW.1 (vx_in _ _) (vx_in _ _) (vx_in _ _) (vx_in _ _)) (sh_0 T) rfl (by decide) (by decide) (Nat.le_of_ble_eq_true rfl) (by omega) (by omega) (fun z1 s1 g1 e1 => ?_)
  refine u_aload_n (j := 2) d_L_854 rfl ?_
  refine u_sldk d_L_855 d_L_856 d_L_857 d_L_858 d_L_859 hX rfl (by omega) (by omega) ?_
  refine u_sldk d_L_860 d_L_861 d_L_862 d_L_863 d_L_864 hX rfl (by omega) (by omega) ?_
  refine u_sldk d_L_865 d_L_866 d_L_867 d_L_868 d_L_869 hX rfl (by omega) (by omega) ?_
  refine u_sldk d_L_870 d_L_871 d_L_872 d_L_873 d_L_874 hX rfl (by omega) (by omega) ?_
  refine u_gVI4 d_L_875 l_L_95 k_M_scale (x_M_scale (e1.2.1 56 (by omega)) hW.1 (vx_in _ _) (vx_in _ _) (vx_in _ _) (vx_in _ _)) (sh_55 T) rfl (by decide) (by decide) (Nat.le_of_ble_eq_true rfl) (by omega) (by omega) (fun z2 s2 g2 e2 => ?_)
  refine u_icmp_eq d_L_878 g1 g2 (fun _ => ?_) (fun z9 => absurd (e1.1.trans e2.1.symm) z9)
  exact K T s2 _ _ (WI_both hW hW.1 e1.2.1 e1.2.2 e2.2.1 e2.2.2 (fun _ _ => rfl)) (by omega) (by omega)

theorem law_due {sb Ln kc ks : Nat} {xs : Nat → Int32} {cx : vCx} {T : vSh} {σ : vMem} {i : Int} (hX : vSc sb Ln xs cx) (hLn : Ln ≤ 3072) (hi : 0 ≤ i ∧ i + 6 ≤ (Ln : Int)) (hW : WI T σ) (hkc : kc + 43 ≤ 406970) (hks : ks + 3199 ≤ 7881340) (K : ∀ (T' : vSh) (σ' : vMem) (kc' ks' : Nat), WI T' σ' → kc' ≤ kc + 43 → ks' ≤ ks + 3199 → vU sb cx "VillagePayLaw" code 4 14 406970 7881340 kc' ks' 1517 [none, some (.ref 0), some (.ref 55), some (.int (iI i))] [] (S0 ++ T') σ') : vU sb cx "VillagePayLaw" code 4 14 406970 7881340 kc ks 883 [none, some (.ref 0), some (.ref 55), some (.int (iI i))] [] (S0 ++ T) σ := by
  refine u_aload_n (j := 1) d_L_883 rfl ?_
  refine u_sldk d_L_884 d_L_885 d_L_886 d_L_887 d_L_888 hX rfl (by omega) (by omega) ?_
  refine u_sldk d_L_889 d_L_890 d_L_891 d_L_892 d_L_893 hX rfl (by omega) (by omega) ?_
  refine u_sldk d_L_894 d_L_895 d_L_896 d_L_897 d_L_898 hX rfl (by omega) (by omega) ?_
  refine u_gVI3 d_L_899 l_L_96 k_V_due (x_V_due hW.2.1 hW.1 (vx_in _ _) (vx_in _ _) (vx_in _ _)) (sh_0 T) rfl (by decide) (by decide) (Nat.le_of_ble_eq_true rfl) (by omega) (by omega) (fun z1 s1 g1 e1 => ?_)
  refine u_aload_n (j := 2) d_L_902 rfl ?_
  refine u_sldk d_L_903 d_L_904 d_L_905 d_L_906 d_L_907 hX rfl (by omega) (by omega) ?_
  refine u_sldk d_L_908 d_L_909 d_L_910 d_L_911 d_L_912 hX rfl (by omega) (by omega) ?_
  refine u_sldk d_L_913 d_L_914 d_L_915 d_L_916 d_L_917 hX rfl (by omega) (by omega) ?_
  refine u_gVI3 d_L_918 l_L_99 k_M_due (x_M_due (e1.2.1 56 (by omega)) hW.1 (vx_in _ _) (vx_in _ _) (vx_in _ _)) (sh_55 T) rfl (by decide) (by decide) (Nat.le_of_ble_eq_true rfl) (by omega) (by omega) (fun z2 s2 g2 e2 => ?_)
  refine u_icmp_eq d_L_921 g1 g2 (fun _ => ?_) (fun z9 => absurd (e1.1.trans e2.1.symm) z9)
  exact K T s2 _ _ (WI_both hW hW.1 e1.2.1 e1.2.2 e2.2.1 e2.2.2 (fun _ _ => rfl)) (by omega) (by omega)

theorem law_balance {sb Ln kc ks : Nat} {xs : Nat → Int32} {cx : vCx} {T : vSh} {σ : vMem} {i : Int} (hX : vSc sb Ln xs cx) (hLn : Ln ≤ 3072) (hi : 0 ≤ i ∧ i + 6 ≤ (Ln : Int)) (hW : WI T σ) (hkc : kc + 43 ≤ 406970) (hks : ks + 3199 ≤ 7881340) (K : ∀ (T' : vSh) (σ' : vMem) (kc' ks' : Nat), WI T' σ' → kc' ≤ kc + 43 → ks' ≤ ks + 3199 → vU sb cx "VillagePayLaw" code 4 14 406970 7881340 kc' ks' 1517 [none, some (.ref 0), some (.ref 55), some (.int (iI i))] [] (S0 ++ T') σ') : vU sb cx "VillagePayLaw" code 4 14 406970 7881340 kc ks 926 [none, some (.ref 0), some (.ref 55), some (.int (iI i))] [] (S0 ++ T) σ := by
  refine u_aload_n (j := 1) d_L_926 rfl ?_
  refine u_sldk d_L_927 d_L_928 d_L_929 d_L_930 d_L_931 hX rfl (by omega) (by omega) ?_
  refine u_sldk d_L_932 d_L_933 d_L_934 d_L_935 d_L_936 hX rfl (by omega) (by omega) ?_
  refine u_sldk d_L_937 d_L_938 d_L_939 d_L_940 d_L_941 hX rfl (by omega) (by omega) ?_
  refine u_gVI3 d_L_942 l_L_100 k_V_balance (x_V_balance hW.2.1 hW.1 (vx_in _ _) (vx_in _ _) (vx_in _ _)) (sh_0 T) rfl (by decide) (by decide) (Nat.le_of_ble_eq_true rfl) (by omega) (by omega) (fun z1 s1 g1 e1 => ?_)
  refine u_aload_n (j := 2) d_L_945 rfl ?_
  refine u_sldk d_L_946 d_L_947 d_L_948 d_L_949 d_L_950 hX rfl (by omega) (by omega) ?_
  refine u_sldk d_L_951 d_L_952 d_L_953 d_L_954 d_L_955 hX rfl (by omega) (by omega) ?_
  refine u_sldk d_L_956 d_L_957 d_L_958 d_L_959 d_L_960 hX rfl (by omega) (by omega) ?_
  refine u_gVI3 d_L_961 l_L_103 k_M_balance (x_M_balance (e1.2.1 56 (by omega)) hW.1 (vx_in _ _) (vx_in _ _) (vx_in _ _)) (sh_55 T) rfl (by decide) (by decide) (Nat.le_of_ble_eq_true rfl) (by omega) (by omega) (fun z2 s2 g2 e2 => ?_)
  refine u_icmp_eq d_L_964 g1 g2 (fun _ => ?_) (fun z9 => absurd (e1.1.trans e2.1.symm) z9)
  exact K T s2 _ _ (WI_both hW hW.1 e1.2.1 e1.2.2 e2.2.1 e2.2.2 (fun _ _ => rfl)) (by omega) (by omega)

theorem law_fit {sb Ln kc ks : Nat} {xs : Nat → Int32} {cx : vCx} {T : vSh} {σ : vMem} {i : Int} (hX : vSc sb Ln xs cx) (hLn : Ln ≤ 3072) (hi : 0 ≤ i ∧ i + 6 ≤ (Ln : Int)) (hW : WI T σ) (hkc : kc + 43 ≤ 406970) (hks : ks + 3199 ≤ 7881340) (K : ∀ (T' : vSh) (σ' : vMem) (kc' ks' : Nat), WI T' σ' → kc' ≤ kc + 43 → ks' ≤ ks + 3199 → vU sb cx "VillagePayLaw" code 4 14 406970 7881340 kc' ks' 1517 [none, some (.ref 0), some (.ref 55), some (.int (iI i))] [] (S0 ++ T') σ') : vU sb cx "VillagePayLaw" code 4 14 406970 7881340 kc ks 969 [none, some (.ref 0), some (.ref 55), some (.int (iI i))] [] (S0 ++ T) σ := by
  refine u_aload_n (j := 1) d_L_969 rfl ?_
  refine u_sldk d_L_970 d_L_971 d_L_972 d_L_973 d_L_974 hX rfl (by omega) (by omega) ?_
  refine u_sldk d_L_975 d_L_976 d_L_977 d_L_978 d_L_979 hX rfl (by omega) (by omega) ?_
  refine u_gVI2 d_L_980 l_L_104 k_V_fit (x_V_fit hW.2.1 hW.1 (vx_in _ _) (vx_in _ _)) (sh_0 T) rfl (by decide) (by decide) (Nat.le_of_ble_eq_true rfl) (by omega) (by omega) (fun z1 s1 g1 e1 => ?_)
  refine u_aload_n (j := 2) d_L_983 rfl ?_
  refine u_sldk d_L_984 d_L_985 d_L_986 d_L_987 d_L_988 hX rfl (by omega) (by omega) ?_
  refine u_sldk d_L_989 d_L_990 d_L_991 d_L_992 d_L_993 hX rfl (by omega) (by omega) ?_
  refine u_gVI2 d_L_994 l_L_107 k_M_fit (x_M_fit (e1.2.1 56 (by omega)) hW.1 (vx_in _ _) (vx_in _ _)) (sh_55 T) rfl (by decide) (by decide) (Nat.le_of_ble_eq_true rfl) (by omega) (by omega) (fun z2 s2 g2 e2 => ?_)
  refine u_icmp_eq d_L_997 g1 g2 (fun _ => ?_) (fun z9 => absurd (e1.1.trans e2.1.symm) z9)
  exact K T s2 _ _ (WI_both hW hW.1 e1.2.1 e1.2.2 e2.2.1 e2.2.2 (fun _ _ => rfl)) (by omega) (by omega)

theorem law_near {sb Ln kc ks : Nat} {xs : Nat → Int32} {cx : vCx} {T : vSh} {σ : vMem} {i : Int} (hX : vSc sb Ln xs cx) (hLn : Ln ≤ 3072) (hi : 0 ≤ i ∧ i + 6 ≤ (Ln : Int)) (hW : WI T σ) (hkc : kc + 43 ≤ 406970) (hks : ks + 3199 ≤ 7881340) (K : ∀ (T' : vSh) (σ' : vMem) (kc' ks' : Nat), WI T' σ' → kc' ≤ kc + 43 → ks' ≤ ks + 3199 → vU sb cx "VillagePayLaw" code 4 14 406970 7881340 kc' ks' 1517 [none, some (.ref 0), some (.ref 55), some (.int (iI i))] [] (S0 ++ T') σ') : vU sb cx "VillagePayLaw" code 4 14 406970 7881340 kc ks 1002 [none, some (.ref 0), some (.ref 55), some (.int (iI i))] [] (S0 ++ T) σ := by
  refine u_aload_n (j := 1) d_L_1002 rfl ?_
  refine u_sldk d_L_1003 d_L_1004 d_L_1005 d_L_1006 d_L_1007 hX rfl (by omega) (by omega) ?_
  refine u_gVI1 d_L_1008 l_L_108 k_V_near (x_V_near hW.2.1 hW.1 (vx_in _ _)) (sh_0 T) rfl (by decide) (by decide) (Nat.le_of_ble_eq_true rfl) (by omega) (by omega) (fun z1 s1 g1 e1 => ?_)
  refine u_aload_n (j := 2) d_L_1011 rfl ?_
  refine u_sldk d_L_1012 d_L_1013 d_L_1014 d_L_1015 d_L_1016 hX rfl (by omega) (by omega) ?_
  refine u_gVI1 d_L_1017 l_L_111 k_M_near (x_M_near (e1.2.1 56 (by omega)) hW.1 (vx_in _ _)) (sh_55 T) rfl (by decide) (by decide) (Nat.le_of_ble_eq_true rfl) (by omega) (by omega) (fun z2 s2 g2 e2 => ?_)
  refine u_icmp_eq d_L_1020 g1 g2 (fun _ => ?_) (fun z9 => absurd (e1.1.trans e2.1.symm) z9)
  exact K T s2 _ _ (WI_both hW hW.1 e1.2.1 e1.2.2 e2.2.1 e2.2.2 (fun _ _ => rfl)) (by omega) (by omega)

theorem law_deal {sb Ln kc ks : Nat} {xs : Nat → Int32} {cx : vCx} {T : vSh} {σ : vMem} {i : Int} (hX : vSc sb Ln xs cx) (hLn : Ln ≤ 3072) (hi : 0 ≤ i ∧ i + 6 ≤ (Ln : Int)) (hW : WI T σ) (hkc : kc + 43 ≤ 406970) (hks : ks + 3199 ≤ 7881340) (K : ∀ (T' : vSh) (σ' : vMem) (kc' ks' : Nat), WI T' σ' → kc' ≤ kc + 43 → ks' ≤ ks + 3199 → vU sb cx "VillagePayLaw" code 4 14 406970 7881340 kc' ks' 1517 [none, some (.ref 0), some (.ref 55), some (.int (iI i))] [] (S0 ++ T') σ') : vU sb cx "VillagePayLaw" code 4 14 406970 7881340 kc ks 1025 [none, some (.ref 0), some (.ref 55), some (.int (iI i))] [] (S0 ++ T) σ := by
  refine u_aload_n (j := 1) d_L_1025 rfl ?_
  refine u_sldk d_L_1026 d_L_1027 d_L_1028 d_L_1029 d_L_1030 hX rfl (by omega) (by omega) ?_
  refine u_sldk d_L_1031 d_L_1032 d_L_1033 d_L_1034 d_L_1035 hX rfl (by omega) (by omega) ?_
  refine u_if_eq d_L_1036 (vx_in _ _) (fun qw2 => ?_) (fun qw2 => ?_)
  · refine u_iconst d_L_1043 ?_
    refine u_gVI2 d_L_1044 l_L_112 k_V_deal (x_V_deal hW.2.1 hW.1 (vx_in _ _) (Or.inl rfl)) (sh_0 T) rfl (by decide) (by decide) (Nat.le_of_ble_eq_true rfl) (by omega) (by omega) (fun z1 s1 g1 e1 => ?_)
    refine u_aload_n (j := 2) d_L_1047 rfl ?_
    refine u_sldk d_L_1048 d_L_1049 d_L_1050 d_L_1051 d_L_1052 hX rfl (by omega) (by omega) ?_
    refine u_sldk d_L_1053 d_L_1054 d_L_1055 d_L_1056 d_L_1057 hX rfl (by omega) (by omega) ?_
    refine u_if_eq d_L_1058 (vx_in _ _) (fun _ => ?_) (fun z9 => absurd qw2 z9)
    refine u_iconst d_L_1065 ?_
    refine u_gVI2 d_L_1066 l_L_116 k_M_deal (x_M_deal (e1.2.1 56 (by omega)) hW.1 (vx_in _ _) (Or.inl rfl)) (sh_55 T) rfl (by decide) (by decide) (Nat.le_of_ble_eq_true rfl) (by omega) (by omega) (fun z2 s2 g2 e2 => ?_)
    refine u_icmp_eq d_L_1069 g1 g2 (fun _ => ?_) (fun z9 => absurd (e1.1.trans e2.1.symm) z9)
    exact K T s2 _ _ (WI_both hW hW.1 e1.2.1 e1.2.2 e2.2.1 e2.2.2 (fun _ _ => rfl)) (by omega) (by omega)
  · refine u_iconst d_L_1039 ?_
    refine u_goto d_L_1040 ?_
    refine u_gVI2 d_L_1044 l_L_112 k_V_deal (x_V_deal hW.2.1 hW.1 (vx_in _ _) (Or.inr rfl)) (sh_0 T) rfl (by decide) (by decide) (Nat.le_of_ble_eq_true rfl) (by omega) (by omega) (fun z1 s1 g1 e1 => ?_)
    refine u_aload_n (j := 2) d_L_1047 rfl ?_
    refine u_sldk d_L_1048 d_L_1049 d_L_1050 d_L_1051 d_L_1052 hX rfl (by omega) (by omega) ?_
    refine u_sldk d_L_1053 d_L_1054 d_L_1055 d_L_1056 d_L_1057 hX rfl (by omega) (by omega) ?_
    refine u_if_eq d_L_1058 (vx_in _ _) (fun z9 => absurd z9 qw2) (fun _ => ?_)
    refine u_iconst d_L_1061 ?_
    refine u_goto d_L_1062 ?_
    refine u_gVI2 d_L_1066 l_L_116 k_M_deal (x_M_deal (e1.2.1 56 (by omega)) hW.1 (vx_in _ _) (Or.inr rfl)) (sh_55 T) rfl (by decide) (by decide) (Nat.le_of_ble_eq_true rfl) (by omega) (by omega) (fun z2 s2 g2 e2 => ?_)
    refine u_icmp_eq d_L_1069 g1 g2 (fun _ => ?_) (fun z9 => absurd (e1.1.trans e2.1.symm) z9)
    exact K T s2 _ _ (WI_both hW hW.1 e1.2.1 e1.2.2 e2.2.1 e2.2.2 (fun _ _ => rfl)) (by omega) (by omega)

theorem law_dealt {sb Ln kc ks : Nat} {xs : Nat → Int32} {cx : vCx} {T : vSh} {σ : vMem} {i : Int} (hX : vSc sb Ln xs cx) (hLn : Ln ≤ 3072) (hi : 0 ≤ i ∧ i + 6 ≤ (Ln : Int)) (hW : WI T σ) (hkc : kc + 43 ≤ 406970) (hks : ks + 3199 ≤ 7881340) (K : ∀ (T' : vSh) (σ' : vMem) (kc' ks' : Nat), WI T' σ' → kc' ≤ kc + 43 → ks' ≤ ks + 3199 → vU sb cx "VillagePayLaw" code 4 14 406970 7881340 kc' ks' 1517 [none, some (.ref 0), some (.ref 55), some (.int (iI i))] [] (S0 ++ T') σ') : vU sb cx "VillagePayLaw" code 4 14 406970 7881340 kc ks 1074 [none, some (.ref 0), some (.ref 55), some (.int (iI i))] [] (S0 ++ T) σ := by
  refine u_aload_n (j := 1) d_L_1074 rfl ?_
  refine u_sldk d_L_1075 d_L_1076 d_L_1077 d_L_1078 d_L_1079 hX rfl (by omega) (by omega) ?_
  refine u_sldk d_L_1080 d_L_1081 d_L_1082 d_L_1083 d_L_1084 hX rfl (by omega) (by omega) ?_
  refine u_if_eq d_L_1085 (vx_in _ _) (fun qw2 => ?_) (fun qw2 => ?_)
  · refine u_iconst d_L_1092 ?_
    refine u_sldk d_L_1093 d_L_1094 d_L_1095 d_L_1096 d_L_1097 hX rfl (by omega) (by omega) ?_
    refine u_gVI3 d_L_1098 l_L_117 k_V_dealt (x_V_dealt hW.2.1 hW.1 (vx_in _ _) (Or.inl rfl) (vx_in _ _)) (sh_0 T) rfl (by decide) (by decide) (Nat.le_of_ble_eq_true rfl) (by omega) (by omega) (fun z1 s1 g1 e1 => ?_)
    refine u_aload_n (j := 2) d_L_1101 rfl ?_
    refine u_sldk d_L_1102 d_L_1103 d_L_1104 d_L_1105 d_L_1106 hX rfl (by omega) (by omega) ?_
    refine u_sldk d_L_1107 d_L_1108 d_L_1109 d_L_1110 d_L_1111 hX rfl (by omega) (by omega) ?_
    refine u_if_eq d_L_1112 (vx_in _ _) (fun _ => ?_) (fun z9 => absurd qw2 z9)
    refine u_iconst d_L_1119 ?_
    refine u_sldk d_L_1120 d_L_1121 d_L_1122 d_L_1123 d_L_1124 hX rfl (by omega) (by omega) ?_
    refine u_gVI3 d_L_1125 l_L_121 k_M_dealt (x_M_dealt (e1.2.1 56 (by omega)) hW.1 (vx_in _ _) (Or.inl rfl) (vx_in _ _)) (sh_55 T) rfl (by decide) (by decide) (Nat.le_of_ble_eq_true rfl) (by omega) (by omega) (fun z2 s2 g2 e2 => ?_)
    refine u_icmp_eq d_L_1128 g1 g2 (fun _ => ?_) (fun z9 => absurd (e1.1.trans e2.1.symm) z9)
    exact K T s2 _ _ (WI_both hW hW.1 e1.2.1 e1.2.2 e2.2.1 e2.2.2 (fun _ _ => rfl)) (by omega) (by omega)
  · refine u_iconst d_L_1088 ?_
    refine u_goto d_L_1089 ?_
    refine u_sldk d_L_1093 d_L_1094 d_L_1095 d_L_1096 d_L_1097 hX rfl (by omega) (by omega) ?_
    refine u_gVI3 d_L_1098 l_L_117 k_V_dealt (x_V_dealt hW.2.1 hW.1 (vx_in _ _) (Or.inr rfl) (vx_in _ _)) (sh_0 T) rfl (by decide) (by decide) (Nat.le_of_ble_eq_true rfl) (by omega) (by omega) (fun z1 s1 g1 e1 => ?_)
    refine u_aload_n (j := 2) d_L_1101 rfl ?_
    refine u_sldk d_L_1102 d_L_1103 d_L_1104 d_L_1105 d_L_1106 hX rfl (by omega) (by omega) ?_
    refine u_sldk d_L_1107 d_L_1108 d_L_1109 d_L_1110 d_L_1111 hX rfl (by omega) (by omega) ?_
    refine u_if_eq d_L_1112 (vx_in _ _) (fun z9 => absurd z9 qw2) (fun _ => ?_)
    refine u_iconst d_L_1115 ?_
    refine u_goto d_L_1116 ?_
    refine u_sldk d_L_1120 d_L_1121 d_L_1122 d_L_1123 d_L_1124 hX rfl (by omega) (by omega) ?_
    refine u_gVI3 d_L_1125 l_L_121 k_M_dealt (x_M_dealt (e1.2.1 56 (by omega)) hW.1 (vx_in _ _) (Or.inr rfl) (vx_in _ _)) (sh_55 T) rfl (by decide) (by decide) (Nat.le_of_ble_eq_true rfl) (by omega) (by omega) (fun z2 s2 g2 e2 => ?_)
    refine u_icmp_eq d_L_1128 g1 g2 (fun _ => ?_) (fun z9 => absurd (e1.1.trans e2.1.symm) z9)
    exact K T s2 _ _ (WI_both hW hW.1 e1.2.1 e1.2.2 e2.2.1 e2.2.2 (fun _ _ => rfl)) (by omega) (by omega)

theorem law_move {sb Ln kc ks : Nat} {xs : Nat → Int32} {cx : vCx} {T : vSh} {σ : vMem} {i : Int} (hX : vSc sb Ln xs cx) (hLn : Ln ≤ 3072) (hi : 0 ≤ i ∧ i + 6 ≤ (Ln : Int)) (hW : WI T σ) (hkc : kc + 43 ≤ 406970) (hks : ks + 3199 ≤ 7881340) (K : ∀ (T' : vSh) (σ' : vMem) (kc' ks' : Nat), WI T' σ' → kc' ≤ kc + 43 → ks' ≤ ks + 3199 → vU sb cx "VillagePayLaw" code 4 14 406970 7881340 kc' ks' 1517 [none, some (.ref 0), some (.ref 55), some (.int (iI i))] [] (S0 ++ T') σ') : vU sb cx "VillagePayLaw" code 4 14 406970 7881340 kc ks 1133 [none, some (.ref 0), some (.ref 55), some (.int (iI i))] [] (S0 ++ T) σ := by
  refine u_aload_n (j := 1) d_L_1133 rfl ?_
  refine u_sldk d_L_1134 d_L_1135 d_L_1136 d_L_1137 d_L_1138 hX rfl (by omega) (by omega) ?_
  refine u_sldk d_L_1139 d_L_1140 d_L_1141 d_L_1142 d_L_1143 hX rfl (by omega) (by omega) ?_
  refine u_gVI2 d_L_1144 l_L_122 k_V_move (x_V_move hW.2.1 hW.1 (vx_in _ _) (vx_in _ _)) (sh_0 T) rfl (by decide) (by decide) (Nat.le_of_ble_eq_true rfl) (by omega) (by omega) (fun z1 s1 g1 e1 => ?_)
  refine u_aload_n (j := 2) d_L_1147 rfl ?_
  refine u_sldk d_L_1148 d_L_1149 d_L_1150 d_L_1151 d_L_1152 hX rfl (by omega) (by omega) ?_
  refine u_sldk d_L_1153 d_L_1154 d_L_1155 d_L_1156 d_L_1157 hX rfl (by omega) (by omega) ?_
  refine u_gVI2 d_L_1158 l_L_125 k_M_move (x_M_move (e1.2.1 56 (by omega)) hW.1 (vx_in _ _) (vx_in _ _)) (sh_55 T) rfl (by decide) (by decide) (Nat.le_of_ble_eq_true rfl) (by omega) (by omega) (fun z2 s2 g2 e2 => ?_)
  refine u_icmp_eq d_L_1161 g1 g2 (fun _ => ?_) (fun z9 => absurd (e1.1.trans e2.1.symm) z9)
  exact K T s2 _ _ (WI_both hW (okw_move hW.1) e1.2.1 e1.2.2 e2.2.1 e2.2.2 (far_move hW.1)) (by omega) (by omega)

theorem law_stay {sb Ln kc ks : Nat} {xs : Nat → Int32} {cx : vCx} {T : vSh} {σ : vMem} {i : Int} (hX : vSc sb Ln xs cx) (hLn : Ln ≤ 3072) (hi : 0 ≤ i ∧ i + 6 ≤ (Ln : Int)) (hW : WI T σ) (hkc : kc + 43 ≤ 406970) (hks : ks + 3199 ≤ 7881340) (K : ∀ (T' : vSh) (σ' : vMem) (kc' ks' : Nat), WI T' σ' → kc' ≤ kc + 43 → ks' ≤ ks + 3199 → vU sb cx "VillagePayLaw" code 4 14 406970 7881340 kc' ks' 1517 [none, some (.ref 0), some (.ref 55), some (.int (iI i))] [] (S0 ++ T') σ') : vU sb cx "VillagePayLaw" code 4 14 406970 7881340 kc ks 1166 [none, some (.ref 0), some (.ref 55), some (.int (iI i))] [] (S0 ++ T) σ := by
  refine u_aload_n (j := 1) d_L_1166 rfl ?_
  refine u_gVV0 d_L_1167 l_L_126 k_V_stay (x_V_stay hW.2.1 hW.1 ) (sh_0 T) rfl (by decide) (by decide) (Nat.le_of_ble_eq_true rfl) (by omega) (by omega) (fun z1 s1 e1 => ?_)
  refine u_aload_n (j := 2) d_L_1170 rfl ?_
  refine u_gVV0 d_L_1171 l_L_129 k_M_stay (x_M_stay (e1.2.1 56 (by omega)) hW.1 ) (sh_55 T) rfl (by decide) (by decide) (Nat.le_of_ble_eq_true rfl) (by omega) (by omega) (fun z2 s2 e2 => ?_)
  refine u_goto d_L_1174 ?_
  exact K T s2 _ _ (WI_both hW (ok_st hW.1) e1.2.1 e1.2.2 e2.2.1 e2.2.2 (fun j hj => st_e _ j (by omega))) (by omega) (by omega)

theorem law_idle {sb Ln kc ks : Nat} {xs : Nat → Int32} {cx : vCx} {T : vSh} {σ : vMem} {i : Int} (hX : vSc sb Ln xs cx) (hLn : Ln ≤ 3072) (hi : 0 ≤ i ∧ i + 6 ≤ (Ln : Int)) (hW : WI T σ) (hkc : kc + 43 ≤ 406970) (hks : ks + 3199 ≤ 7881340) (K : ∀ (T' : vSh) (σ' : vMem) (kc' ks' : Nat), WI T' σ' → kc' ≤ kc + 43 → ks' ≤ ks + 3199 → vU sb cx "VillagePayLaw" code 4 14 406970 7881340 kc' ks' 1517 [none, some (.ref 0), some (.ref 55), some (.int (iI i))] [] (S0 ++ T') σ') : vU sb cx "VillagePayLaw" code 4 14 406970 7881340 kc ks 1177 [none, some (.ref 0), some (.ref 55), some (.int (iI i))] [] (S0 ++ T) σ := by
  refine u_aload_n (j := 1) d_L_1177 rfl ?_
  refine u_gVI0 d_L_1178 l_L_130 k_V_idle (x_V_idle hW.2.1 hW.1 ) (sh_0 T) rfl (by decide) (by decide) (Nat.le_of_ble_eq_true rfl) (by omega) (by omega) (fun z1 s1 g1 e1 => ?_)
  refine u_aload_n (j := 2) d_L_1181 rfl ?_
  refine u_gVI0 d_L_1182 l_L_134 k_M_idle (x_M_idle (e1.2.1 56 (by omega)) hW.1 ) (sh_55 T) rfl (by decide) (by decide) (Nat.le_of_ble_eq_true rfl) (by omega) (by omega) (fun z2 s2 g2 e2 => ?_)
  refine u_icmp_eq d_L_1185 g1 g2 (fun _ => ?_) (fun z9 => absurd (e1.1.trans e2.1.symm) z9)
  exact K T s2 _ _ (WI_both hW hW.1 e1.2.1 e1.2.2 e2.2.1 e2.2.2 (fun _ _ => rfl)) (by omega) (by omega)

theorem law_moved {sb Ln kc ks : Nat} {xs : Nat → Int32} {cx : vCx} {T : vSh} {σ : vMem} {i : Int} (hX : vSc sb Ln xs cx) (hLn : Ln ≤ 3072) (hi : 0 ≤ i ∧ i + 6 ≤ (Ln : Int)) (hW : WI T σ) (hkc : kc + 43 ≤ 406970) (hks : ks + 3199 ≤ 7881340) (K : ∀ (T' : vSh) (σ' : vMem) (kc' ks' : Nat), WI T' σ' → kc' ≤ kc + 43 → ks' ≤ ks + 3199 → vU sb cx "VillagePayLaw" code 4 14 406970 7881340 kc' ks' 1517 [none, some (.ref 0), some (.ref 55), some (.int (iI i))] [] (S0 ++ T') σ') : vU sb cx "VillagePayLaw" code 4 14 406970 7881340 kc ks 1190 [none, some (.ref 0), some (.ref 55), some (.int (iI i))] [] (S0 ++ T) σ := by
  refine u_aload_n (j := 1) d_L_1190 rfl ?_
  refine u_sldk d_L_1191 d_L_1192 d_L_1193 d_L_1194 d_L_1195 hX rfl (by omega) (by omega) ?_
  refine u_gVI1 d_L_1196 l_L_135 k_V_moved (x_V_moved hW.2.1 hW.1 (vx_in _ _)) (sh_0 T) rfl (by decide) (by decide) (Nat.le_of_ble_eq_true rfl) (by omega) (by omega) (fun z1 s1 g1 e1 => ?_)
  refine u_aload_n (j := 2) d_L_1199 rfl ?_
  refine u_sldk d_L_1200 d_L_1201 d_L_1202 d_L_1203 d_L_1204 hX rfl (by omega) (by omega) ?_
  refine u_gVI1 d_L_1205 l_L_138 k_M_moved (x_M_moved (e1.2.1 56 (by omega)) hW.1 (vx_in _ _)) (sh_55 T) rfl (by decide) (by decide) (Nat.le_of_ble_eq_true rfl) (by omega) (by omega) (fun z2 s2 g2 e2 => ?_)
  refine u_icmp_eq d_L_1208 g1 g2 (fun _ => ?_) (fun z9 => absurd (e1.1.trans e2.1.symm) z9)
  exact K T s2 _ _ (WI_both hW hW.1 e1.2.1 e1.2.2 e2.2.1 e2.2.2 (fun _ _ => rfl)) (by omega) (by omega)

theorem law_say {sb Ln kc ks : Nat} {xs : Nat → Int32} {cx : vCx} {T : vSh} {σ : vMem} {i : Int} (hX : vSc sb Ln xs cx) (hLn : Ln ≤ 3072) (hi : 0 ≤ i ∧ i + 6 ≤ (Ln : Int)) (hW : WI T σ) (hkc : kc + 43 ≤ 406970) (hks : ks + 3199 ≤ 7881340) (K : ∀ (T' : vSh) (σ' : vMem) (kc' ks' : Nat), WI T' σ' → kc' ≤ kc + 43 → ks' ≤ ks + 3199 → vU sb cx "VillagePayLaw" code 4 14 406970 7881340 kc' ks' 1517 [none, some (.ref 0), some (.ref 55), some (.int (iI i))] [] (S0 ++ T') σ') : vU sb cx "VillagePayLaw" code 4 14 406970 7881340 kc ks 1213 [none, some (.ref 0), some (.ref 55), some (.int (iI i))] [] (S0 ++ T) σ := by
  refine u_aload_n (j := 1) d_L_1213 rfl ?_
  refine u_sldk d_L_1214 d_L_1215 d_L_1216 d_L_1217 d_L_1218 hX rfl (by omega) (by omega) ?_
  refine u_sldk d_L_1219 d_L_1220 d_L_1221 d_L_1222 d_L_1223 hX rfl (by omega) (by omega) ?_
  refine u_sldk d_L_1224 d_L_1225 d_L_1226 d_L_1227 d_L_1228 hX rfl (by omega) (by omega) ?_
  refine u_sldk d_L_1229 d_L_1230 d_L_1231 d_L_1232 d_L_1233 hX rfl (by omega) (by omega) ?_
  refine u_gVI4 d_L_1234 l_L_139 k_V_say (x_V_say hW.2.1 hW.1 (vx_in _ _) (vx_in _ _) (vx_in _ _) (vx_in _ _)) (sh_0 T) rfl (by decide) (by decide) (Nat.le_of_ble_eq_true rfl) (by omega) (by omega) (fun z1 s1 g1 e1 => ?_)
  refine u_aload_n (j := 2) d_L_1237 rfl ?_
  refine u_sldk d_L_1238 d_L_1239 d_L_1240 d_L_1241 d_L_1242 hX rfl (by omega) (by omega) ?_
  refine u_sldk d_L_1243 d_L_1244 d_L_1245 d_L_1246 d_L_1247 hX rfl (by omega) (by omega) ?_
  refine u_sldk d_L_1248 d_L_1249 d_L_1250 d_L_1251 d_L_1252 hX rfl (by omega) (by omega) ?_
  refine u_sldk d_L_1253 d_L_1254 d_L_1255 d_L_1256 d_L_1257 hX rfl (by omega) (by omega) ?_
  refine u_gVI4 d_L_1258 l_L_142 k_M_say (x_M_say (e1.2.1 56 (by omega)) hW.1 (vx_in _ _) (vx_in _ _) (vx_in _ _) (vx_in _ _)) (sh_55 T) rfl (by decide) (by decide) (Nat.le_of_ble_eq_true rfl) (by omega) (by omega) (fun z2 s2 g2 e2 => ?_)
  refine u_icmp_eq d_L_1261 g1 g2 (fun _ => ?_) (fun z9 => absurd (e1.1.trans e2.1.symm) z9)
  exact K T s2 _ _ (WI_both hW (okw_say hW.1) e1.2.1 e1.2.2 e2.2.1 e2.2.2 (far_say hW.1)) (by omega) (by omega)

theorem law_trust {sb Ln kc ks : Nat} {xs : Nat → Int32} {cx : vCx} {T : vSh} {σ : vMem} {i : Int} (hX : vSc sb Ln xs cx) (hLn : Ln ≤ 3072) (hi : 0 ≤ i ∧ i + 6 ≤ (Ln : Int)) (hW : WI T σ) (hkc : kc + 43 ≤ 406970) (hks : ks + 3199 ≤ 7881340) (K : ∀ (T' : vSh) (σ' : vMem) (kc' ks' : Nat), WI T' σ' → kc' ≤ kc + 43 → ks' ≤ ks + 3199 → vU sb cx "VillagePayLaw" code 4 14 406970 7881340 kc' ks' 1517 [none, some (.ref 0), some (.ref 55), some (.int (iI i))] [] (S0 ++ T') σ') : vU sb cx "VillagePayLaw" code 4 14 406970 7881340 kc ks 1266 [none, some (.ref 0), some (.ref 55), some (.int (iI i))] [] (S0 ++ T) σ := by
  refine u_aload_n (j := 1) d_L_1266 rfl ?_
  refine u_sldk d_L_1267 d_L_1268 d_L_1269 d_L_1270 d_L_1271 hX rfl (by omega) (by omega) ?_
  refine u_sldk d_L_1272 d_L_1273 d_L_1274 d_L_1275 d_L_1276 hX rfl (by omega) (by omega) ?_
  refine u_gVI2 d_L_1277 l_L_143 k_V_trust (x_V_trust hW.2.1 hW.1 (vx_in _ _) (vx_in _ _)) (sh_0 T) rfl (by decide) (by decide) (Nat.le_of_ble_eq_true rfl) (by omega) (by omega) (fun z1 s1 g1 e1 => ?_)
  refine u_aload_n (j := 2) d_L_1280 rfl ?_
  refine u_sldk d_L_1281 d_L_1282 d_L_1283 d_L_1284 d_L_1285 hX rfl (by omega) (by omega) ?_
  refine u_sldk d_L_1286 d_L_1287 d_L_1288 d_L_1289 d_L_1290 hX rfl (by omega) (by omega) ?_
  refine u_gVI2 d_L_1291 l_L_146 k_M_trust (x_M_trust (e1.2.1 56 (by omega)) hW.1 (vx_in _ _) (vx_in _ _)) (sh_55 T) rfl (by decide) (by decide) (Nat.le_of_ble_eq_true rfl) (by omega) (by omega) (fun z2 s2 g2 e2 => ?_)
  refine u_icmp_eq d_L_1294 g1 g2 (fun _ => ?_) (fun z9 => absurd (e1.1.trans e2.1.symm) z9)
  exact K T s2 _ _ (WI_both hW hW.1 e1.2.1 e1.2.2 e2.2.1 e2.2.2 (fun _ _ => rfl)) (by omega) (by omega)

theorem law_weighed {sb Ln kc ks : Nat} {xs : Nat → Int32} {cx : vCx} {T : vSh} {σ : vMem} {i : Int} (hX : vSc sb Ln xs cx) (hLn : Ln ≤ 3072) (hi : 0 ≤ i ∧ i + 6 ≤ (Ln : Int)) (hW : WI T σ) (hkc : kc + 43 ≤ 406970) (hks : ks + 3199 ≤ 7881340) (K : ∀ (T' : vSh) (σ' : vMem) (kc' ks' : Nat), WI T' σ' → kc' ≤ kc + 43 → ks' ≤ ks + 3199 → vU sb cx "VillagePayLaw" code 4 14 406970 7881340 kc' ks' 1517 [none, some (.ref 0), some (.ref 55), some (.int (iI i))] [] (S0 ++ T') σ') : vU sb cx "VillagePayLaw" code 4 14 406970 7881340 kc ks 1299 [none, some (.ref 0), some (.ref 55), some (.int (iI i))] [] (S0 ++ T) σ := by
  refine u_aload_n (j := 1) d_L_1299 rfl ?_
  refine u_sldk d_L_1300 d_L_1301 d_L_1302 d_L_1303 d_L_1304 hX rfl (by omega) (by omega) ?_
  refine u_sldk d_L_1305 d_L_1306 d_L_1307 d_L_1308 d_L_1309 hX rfl (by omega) (by omega) ?_
  refine u_sldk d_L_1310 d_L_1311 d_L_1312 d_L_1313 d_L_1314 hX rfl (by omega) (by omega) ?_
  refine u_gVI3 d_L_1315 l_L_147 k_V_weighed (x_V_weighed hW.2.1 hW.1 (vx_in _ _) (vx_in _ _) (vx_in _ _)) (sh_0 T) rfl (by decide) (by decide) (Nat.le_of_ble_eq_true rfl) (by omega) (by omega) (fun z1 s1 g1 e1 => ?_)
  refine u_aload_n (j := 2) d_L_1318 rfl ?_
  refine u_sldk d_L_1319 d_L_1320 d_L_1321 d_L_1322 d_L_1323 hX rfl (by omega) (by omega) ?_
  refine u_sldk d_L_1324 d_L_1325 d_L_1326 d_L_1327 d_L_1328 hX rfl (by omega) (by omega) ?_
  refine u_sldk d_L_1329 d_L_1330 d_L_1331 d_L_1332 d_L_1333 hX rfl (by omega) (by omega) ?_
  refine u_gVI3 d_L_1334 l_L_150 k_M_weighed (x_M_weighed (e1.2.1 56 (by omega)) hW.1 (vx_in _ _) (vx_in _ _) (vx_in _ _)) (sh_55 T) rfl (by decide) (by decide) (Nat.le_of_ble_eq_true rfl) (by omega) (by omega) (fun z2 s2 g2 e2 => ?_)
  refine u_icmp_eq d_L_1337 g1 g2 (fun _ => ?_) (fun z9 => absurd (e1.1.trans e2.1.symm) z9)
  exact K T s2 _ _ (WI_both hW hW.1 e1.2.1 e1.2.2 e2.2.1 e2.2.2 (fun _ _ => rfl)) (by omega) (by omega)

theorem law_famine {sb Ln kc ks : Nat} {xs : Nat → Int32} {cx : vCx} {T : vSh} {σ : vMem} {i : Int} (hX : vSc sb Ln xs cx) (hLn : Ln ≤ 3072) (hi : 0 ≤ i ∧ i + 6 ≤ (Ln : Int)) (hW : WI T σ) (hkc : kc + 43 ≤ 406970) (hks : ks + 3199 ≤ 7881340) (K : ∀ (T' : vSh) (σ' : vMem) (kc' ks' : Nat), WI T' σ' → kc' ≤ kc + 43 → ks' ≤ ks + 3199 → vU sb cx "VillagePayLaw" code 4 14 406970 7881340 kc' ks' 1517 [none, some (.ref 0), some (.ref 55), some (.int (iI i))] [] (S0 ++ T') σ') : vU sb cx "VillagePayLaw" code 4 14 406970 7881340 kc ks 1342 [none, some (.ref 0), some (.ref 55), some (.int (iI i))] [] (S0 ++ T) σ := by
  refine u_aload_n (j := 1) d_L_1342 rfl ?_
  refine u_sldk d_L_1343 d_L_1344 d_L_1345 d_L_1346 d_L_1347 hX rfl (by omega) (by omega) ?_
  refine u_sldk d_L_1348 d_L_1349 d_L_1350 d_L_1351 d_L_1352 hX rfl (by omega) (by omega) ?_
  refine u_sldk d_L_1353 d_L_1354 d_L_1355 d_L_1356 d_L_1357 hX rfl (by omega) (by omega) ?_
  refine u_gVZ3 d_L_1358 l_L_151 k_V_famine (x_V_famine hW.2.1 hW.1 (vx_in _ _) (vx_in _ _) (vx_in _ _)) (sh_0 T) rfl (by decide) (by decide) (Nat.le_of_ble_eq_true rfl) (by omega) (by omega) (fun z1 s1 g1 e1 => ?_)
  refine u_aload_n (j := 2) d_L_1361 rfl ?_
  refine u_sldk d_L_1362 d_L_1363 d_L_1364 d_L_1365 d_L_1366 hX rfl (by omega) (by omega) ?_
  refine u_sldk d_L_1367 d_L_1368 d_L_1369 d_L_1370 d_L_1371 hX rfl (by omega) (by omega) ?_
  refine u_sldk d_L_1372 d_L_1373 d_L_1374 d_L_1375 d_L_1376 hX rfl (by omega) (by omega) ?_
  refine u_gVZ3 d_L_1377 l_L_155 k_M_famine (x_M_famine (e1.2.1 56 (by omega)) hW.1 (vx_in _ _) (vx_in _ _) (vx_in _ _)) (sh_55 T) rfl (by decide) (by decide) (Nat.le_of_ble_eq_true rfl) (by omega) (by omega) (fun z2 s2 g2 e2 => ?_)
  refine u_icmp_eq d_L_1380 g1 g2 (fun _ => ?_) (fun z9 => absurd (e1.1.trans e2.1.symm) z9)
  exact K T s2 _ _ (WI_both hW hW.1 e1.2.1 e1.2.2 e2.2.1 e2.2.2 (fun _ _ => rfl)) (by omega) (by omega)

theorem law_tried {sb Ln kc ks : Nat} {xs : Nat → Int32} {cx : vCx} {T : vSh} {σ : vMem} {i : Int} (hX : vSc sb Ln xs cx) (hLn : Ln ≤ 3072) (hi : 0 ≤ i ∧ i + 6 ≤ (Ln : Int)) (hW : WI T σ) (hkc : kc + 43 ≤ 406970) (hks : ks + 3199 ≤ 7881340) (K : ∀ (T' : vSh) (σ' : vMem) (kc' ks' : Nat), WI T' σ' → kc' ≤ kc + 43 → ks' ≤ ks + 3199 → vU sb cx "VillagePayLaw" code 4 14 406970 7881340 kc' ks' 1517 [none, some (.ref 0), some (.ref 55), some (.int (iI i))] [] (S0 ++ T') σ') : vU sb cx "VillagePayLaw" code 4 14 406970 7881340 kc ks 1385 [none, some (.ref 0), some (.ref 55), some (.int (iI i))] [] (S0 ++ T) σ := by
  refine u_aload_n (j := 1) d_L_1385 rfl ?_
  refine u_sldk d_L_1386 d_L_1387 d_L_1388 d_L_1389 d_L_1390 hX rfl (by omega) (by omega) ?_
  refine u_sldk d_L_1391 d_L_1392 d_L_1393 d_L_1394 d_L_1395 hX rfl (by omega) (by omega) ?_
  refine u_sldk d_L_1396 d_L_1397 d_L_1398 d_L_1399 d_L_1400 hX rfl (by omega) (by omega) ?_
  refine u_sldk d_L_1401 d_L_1402 d_L_1403 d_L_1404 d_L_1405 hX rfl (by omega) (by omega) ?_
  refine u_sldk d_L_1406 d_L_1407 d_L_1408 d_L_1409 d_L_1410 hX rfl (by omega) (by omega) ?_
  refine u_gVI5 d_L_1411 l_L_156 k_V_tried (x_V_tried hW.2.1 hW.1 (vx_in _ _) (vx_in _ _) (vx_in _ _) (vx_in _ _) (vx_in _ _)) (sh_0 T) rfl (by decide) (by decide) (Nat.le_of_ble_eq_true rfl) (by omega) (by omega) (fun z1 s1 g1 e1 => ?_)
  refine u_aload_n (j := 2) d_L_1414 rfl ?_
  refine u_sldk d_L_1415 d_L_1416 d_L_1417 d_L_1418 d_L_1419 hX rfl (by omega) (by omega) ?_
  refine u_sldk d_L_1420 d_L_1421 d_L_1422 d_L_1423 d_L_1424 hX rfl (by omega) (by omega) ?_
  refine u_sldk d_L_1425 d_L_1426 d_L_1427 d_L_1428 d_L_1429 hX rfl (by omega) (by omega) ?_
  refine u_sldk d_L_1430 d_L_1431 d_L_1432 d_L_1433 d_L_1434 hX rfl (by omega) (by omega) ?_
  refine u_sldk d_L_1435 d_L_1436 d_L_1437 d_L_1438 d_L_1439 hX rfl (by omega) (by omega) ?_
  refine u_gVI5 d_L_1440 l_L_159 k_M_tried (x_M_tried (e1.2.1 56 (by omega)) hW.1 (vx_in _ _) (vx_in _ _) (vx_in _ _) (vx_in _ _) (vx_in _ _)) (sh_55 T) rfl (by decide) (by decide) (Nat.le_of_ble_eq_true rfl) (by omega) (by omega) (fun z2 s2 g2 e2 => ?_)
  refine u_icmp_eq d_L_1443 g1 g2 (fun _ => ?_) (fun z9 => absurd (e1.1.trans e2.1.symm) z9)
  exact K T s2 _ _ (WI_both hW hW.1 e1.2.1 e1.2.2 e2.2.1 e2.2.2 (fun _ _ => rfl)) (by omega) (by omega)

theorem law_count {sb Ln kc ks : Nat} {xs : Nat → Int32} {cx : vCx} {T : vSh} {σ : vMem} {i : Int} (hX : vSc sb Ln xs cx) (hLn : Ln ≤ 3072) (hi : 0 ≤ i ∧ i + 6 ≤ (Ln : Int)) (hW : WI T σ) (hkc : kc + 43 ≤ 406970) (hks : ks + 3199 ≤ 7881340) (K : ∀ (T' : vSh) (σ' : vMem) (kc' ks' : Nat), WI T' σ' → kc' ≤ kc + 43 → ks' ≤ ks + 3199 → vU sb cx "VillagePayLaw" code 4 14 406970 7881340 kc' ks' 1517 [none, some (.ref 0), some (.ref 55), some (.int (iI i))] [] (S0 ++ T') σ') : vU sb cx "VillagePayLaw" code 4 14 406970 7881340 kc ks 1448 [none, some (.ref 0), some (.ref 55), some (.int (iI i))] [] (S0 ++ T) σ := by
  refine u_aload_n (j := 1) d_L_1448 rfl ?_
  refine u_sldk d_L_1449 d_L_1450 d_L_1451 d_L_1452 d_L_1453 hX rfl (by omega) (by omega) ?_
  refine u_gVI1 d_L_1454 l_L_160 k_V_count (x_V_count hW.2.1 hW.1 (vx_in _ _)) (sh_0 T) rfl (by decide) (by decide) (Nat.le_of_ble_eq_true rfl) (by omega) (by omega) (fun z1 s1 g1 e1 => ?_)
  refine u_aload_n (j := 2) d_L_1457 rfl ?_
  refine u_sldk d_L_1458 d_L_1459 d_L_1460 d_L_1461 d_L_1462 hX rfl (by omega) (by omega) ?_
  refine u_gVI1 d_L_1463 l_L_163 k_M_count (x_M_count (e1.2.1 56 (by omega)) hW.1 (vx_in _ _)) (sh_55 T) rfl (by decide) (by decide) (Nat.le_of_ble_eq_true rfl) (by omega) (by omega) (fun z2 s2 g2 e2 => ?_)
  refine u_icmp_eq d_L_1466 g1 g2 (fun _ => ?_) (fun z9 => absurd (e1.1.trans e2.1.symm) z9)
  exact K T s2 _ _ (WI_both hW hW.1 e1.2.1 e1.2.2 e2.2.1 e2.2.2 (fun _ _ => rfl)) (by omega) (by omega)

theorem law_image {sb Ln kc ks : Nat} {xs : Nat → Int32} {cx : vCx} {T : vSh} {σ : vMem} {i : Int} (hX : vSc sb Ln xs cx) (hLn : Ln ≤ 3072) (hi : 0 ≤ i ∧ i + 6 ≤ (Ln : Int)) (hW : WI T σ) (hkc : kc + 43 ≤ 406970) (hks : ks + 3199 ≤ 7881340) (K : ∀ (T' : vSh) (σ' : vMem) (kc' ks' : Nat), WI T' σ' → kc' ≤ kc + 43 → ks' ≤ ks + 3199 → vU sb cx "VillagePayLaw" code 4 14 406970 7881340 kc' ks' 1517 [none, some (.ref 0), some (.ref 55), some (.int (iI i))] [] (S0 ++ T') σ') : vU sb cx "VillagePayLaw" code 4 14 406970 7881340 kc ks 1471 [none, some (.ref 0), some (.ref 55), some (.int (iI i))] [] (S0 ++ T) σ := by
  refine u_aload_n (j := 1) d_L_1471 rfl ?_
  refine u_sldk d_L_1472 d_L_1473 d_L_1474 d_L_1475 d_L_1476 hX rfl (by omega) (by omega) ?_
  refine u_callV (as := [.int (iI (vx xs (i + 1)))]) d_L_1477 l_L_164 k_V_image (c_V_image hW.2.1 hW.1 (vx_in _ _) (WI_len hW) (WI_okI hW)) (sh_0 T) rfl rfl (by decide) (by decide) (Nat.le_of_ble_eq_true rfl) (by omega) (by omega) (fun z1 S1 s1 g1 e1 => ?_)
  rcases e1 with ⟨y1, rfl, rfl, rfl⟩ | ⟨y1, rfl, ⟨y2, rfl, y3, y4⟩ | ⟨y2, rfl, y3, y4, y5⟩⟩
  · refine u_aload_n (j := 2) d_L_1480 rfl ?_
    refine u_sldk d_L_1481 d_L_1482 d_L_1483 d_L_1484 d_L_1485 hX rfl (by omega) (by omega) ?_
    refine u_gVZ1 d_L_1486 l_L_167 k_M_image (c_M_image rfl (vx_in _ _)) (sh_55 T) rfl (by decide) (by decide) (Nat.le_of_ble_eq_true rfl) (by omega) (by omega) (fun z2 s2 g2 e2 => ?_)
    rcases e2 with ⟨x1, -⟩ | ⟨x1, rfl, rfl⟩
    · exact absurd x1 y1
    · refine u_icmp_eq d_L_1489 (by decide) g2 (fun _ => ?_) (fun z9 => absurd rfl z9)
      exact K T _ _ _ hW (by omega) (by omega)
  · refine u_aload_n (j := 2) d_L_1480 rfl ?_
    refine u_sldk d_L_1481 d_L_1482 d_L_1483 d_L_1484 d_L_1485 hX rfl (by omega) (by omega) ?_
    have hB := ((hW.2.2.2 _ y1.1 y1.2).2 y2).1
    refine u_gVZ1 d_L_1486 l_L_167 k_M_image (c_M_image (A := σ 56) (y3 56 (by omega)) (vx_in _ _)) (sh_55 T) rfl (by decide) (by decide) (Nat.le_of_ble_eq_true rfl) (by omega) (by omega) (fun z2 s2 g2 e2 => ?_)
    rcases e2 with ⟨x1, rfl, x2, x3, x4⟩ | ⟨x1, -⟩
    · refine u_icmp_eq d_L_1489 (by decide) g2 (fun _ => ?_) (fun z9 => absurd rfl z9)
      exact K T _ _ _ (WI_old hW y1 y2 y3 y4 x2 x3 x4) (by omega) (by omega)
    · exact absurd y1 x1
  · rw [List.append_assoc]
    have hlen : (S0 ++ T).length = 71 + T.length := by rw [List.length_append]; rfl
    refine u_aload_n (j := 2) d_L_1480 rfl ?_
    refine u_sldk d_L_1481 d_L_1482 d_L_1483 d_L_1484 d_L_1485 hX rfl (by omega) (by omega) ?_
    refine u_gVZ1 d_L_1486 l_L_167 k_M_image (c_M_image (A := σ 56) (y4 56 (by omega) (by decide)) (vx_in _ _)) (sh_55 _) rfl (by decide) (by decide) (Nat.le_of_ble_eq_true rfl) (by omega) (by omega) (fun z2 s2 g2 e2 => ?_)
    rcases e2 with ⟨x1, rfl, x2, x3, x4⟩ | ⟨x1, -⟩
    · refine u_icmp_eq d_L_1489 (by decide) g2 (fun _ => ?_) (fun z9 => absurd rfl z9)
      exact K _ _ _ _ (WI_new hW y1 y2 y3 y4 y5 x2 x3 x4) (by omega) (by omega)
    · exact absurd y1 x1
theorem law_again {sb Ln kc ks : Nat} {xs : Nat → Int32} {cx : vCx} {T : vSh} {σ : vMem} {i : Int} (hX : vSc sb Ln xs cx) (hLn : Ln ≤ 3072) (hi : 0 ≤ i ∧ i + 6 ≤ (Ln : Int)) (hW : WI T σ) (hkc : kc + 43 ≤ 406970) (hks : ks + 3199 ≤ 7881340) (K : ∀ (T' : vSh) (σ' : vMem) (kc' ks' : Nat), WI T' σ' → kc' ≤ kc + 43 → ks' ≤ ks + 3199 → vU sb cx "VillagePayLaw" code 4 14 406970 7881340 kc' ks' 1517 [none, some (.ref 0), some (.ref 55), some (.int (iI i))] [] (S0 ++ T') σ') : vU sb cx "VillagePayLaw" code 4 14 406970 7881340 kc ks 1494 [none, some (.ref 0), some (.ref 55), some (.int (iI i))] [] (S0 ++ T) σ := by
  have hE : ∀ k, 0 ≤ k ∧ k ≤ 2 → (σ 57 k = 0 ↔ σ 44 k = 0) := fun k hk => (hW.2.2.2 k hk.1 hk.2).1
  refine u_aload_n (j := 1) d_L_1494 rfl ?_
  refine u_sldk d_L_1495 d_L_1496 d_L_1497 d_L_1498 d_L_1499 hX rfl (by omega) (by omega) ?_
  by_cases hq : (0 ≤ vx xs (i + 1) ∧ vx xs (i + 1) ≤ 2) ∧ σ 44 (vx xs (i + 1)) ≠ 0
  · have h9 := (hW.2.2.2 _ hq.1.1 hq.1.2).2 hq.2
    refine u_gVZ1 d_L_1500 l_L_168 k_V_again (c_V_again (vx_in _ _) (WI_okI hW) h9.2.2.1 (fun _ => h9.2.2.2.1)) (sh_0 T) rfl (by decide) (by decide) (Nat.le_of_ble_eq_true rfl) (by omega) (by omega) (fun z1 s1 g1 e1 => ?_)
    refine u_aload_n (j := 2) d_L_1503 rfl ?_
    refine u_sldk d_L_1504 d_L_1505 d_L_1506 d_L_1507 d_L_1508 hX rfl (by omega) (by omega) ?_
    rcases e1 with ⟨-, rfl, y3, y4⟩ | ⟨y1, -⟩
    · refine u_gVZ1 d_L_1509 l_L_171 k_M_again (c_M_again (A := σ 56) (y3 56 (by omega)) (vx_in _ _)) (sh_55 T) rfl (by decide) (by decide) (Nat.le_of_ble_eq_true rfl) (by omega) (by omega) (fun z2 s2 g2 e2 => ?_)
      rcases e2 with ⟨x1, rfl, x2, x3⟩ | ⟨x1, -⟩
      · refine u_icmp_eq d_L_1512 (by decide) g2 (fun _ => ?_) (fun z9 => absurd rfl z9)
        exact K T _ _ _ (WI_again hW hq.1 hq.2 y3 y4 x2 x3) (by omega) (by omega)
      · exact absurd ⟨hq.1, by rw [y3 57 (by omega)]; exact fun z => hq.2 ((hE _ hq.1).mp z)⟩ x1
    · exact absurd hq y1
  · refine u_gVZ1 d_L_1500 l_L_168 k_V_again (c_V_again (vx_in _ _) (WI_okI hW) hW.1 (fun z => absurd z hq)) (sh_0 T) rfl (by decide) (by decide) (Nat.le_of_ble_eq_true rfl) (by omega) (by omega) (fun z1 s1 g1 e1 => ?_)
    refine u_aload_n (j := 2) d_L_1503 rfl ?_
    refine u_sldk d_L_1504 d_L_1505 d_L_1506 d_L_1507 d_L_1508 hX rfl (by omega) (by omega) ?_
    rcases e1 with ⟨y1, -⟩ | ⟨-, rfl, rfl⟩
    · exact absurd y1 hq
    · refine u_gVZ1 d_L_1509 l_L_171 k_M_again (c_M_again rfl (vx_in _ _)) (sh_55 T) rfl (by decide) (by decide) (Nat.le_of_ble_eq_true rfl) (by omega) (by omega) (fun z2 s2 g2 e2 => ?_)
      rcases e2 with ⟨x1, -⟩ | ⟨-, rfl, rfl⟩
      · exact absurd ⟨x1.1, fun z => x1.2 ((hE _ x1.1).mpr z)⟩ hq
      · refine u_icmp_eq d_L_1512 (by decide) g2 (fun _ => ?_) (fun z9 => absurd rfl z9)
        exact K T _ _ _ hW (by omega) (by omega)

