theorem cel_selD {G : Gt} {S T : Wo} {i : Nat} (h1 : S.1 = T.1) (h2 : S.2.1 = T.2.1) (h3 : S.2.2.1 = T.2.2.1) (h4 : S.2.2.2.1 = T.2.2.2.1) (h5 : gB G = gB G) (h6 : i < 176) : cel G S i = cel G T i := by
  obtain ⟨a, b, c, d, e⟩ := S
  obtain ⟨a', b', c', d', e'⟩ := T
  cases h1; cases h2; cases h3; cases h4
  unfold cel
  by_cases h09 : i = 0
  · rw [if_pos h09, if_pos h09]
    all_goals rfl
  rw [if_neg h09, if_neg h09]
  by_cases h19 : i ≤ 52
  · rw [if_pos h19, if_pos h19]
    all_goals rfl
  rw [if_neg h19, if_neg h19]
  by_cases h29 : i = 53
  · rw [if_pos h29, if_pos h29]
    all_goals rfl
  rw [if_neg h29, if_neg h29]
  by_cases h39 : i = 54
  · rw [if_pos h39, if_pos h39]
    all_goals rfl
  rw [if_neg h39, if_neg h39]
  by_cases h49 : i ≤ 158
  · rw [if_pos h49, if_pos h49]
    all_goals rfl
  rw [if_neg h49, if_neg h49]
  by_cases h59 : i = 159
  · rw [if_pos h59, if_pos h59]
    all_goals rfl
  rw [if_neg h59, if_neg h59]
  by_cases h69 : i = 160
  · rw [if_pos h69, if_pos h69]
    all_goals rfl
  rw [if_neg h69, if_neg h69]
  by_cases h79 : i = 161
  · rw [if_pos h79, if_pos h79]
    all_goals rfl
  rw [if_neg h79, if_neg h79]
  by_cases h89 : i = 162
  · rw [if_pos h89, if_pos h89]
    all_goals rfl
  rw [if_neg h89, if_neg h89]
  by_cases h99 : i = 163
  · rw [if_pos h99, if_pos h99]
    all_goals rfl
  rw [if_neg h99, if_neg h99]
  by_cases h109 : i = 164
  · rw [if_pos h109, if_pos h109]
    all_goals rfl
  rw [if_neg h109, if_neg h109]
  by_cases h119 : i = 165
  · rw [if_pos h119, if_pos h119]
    all_goals rfl
  rw [if_neg h119, if_neg h119]
  by_cases h129 : i = 166
  · rw [if_pos h129, if_pos h129]
    all_goals rfl
  rw [if_neg h129, if_neg h129]
  by_cases h139 : i = 168
  · rw [if_pos h139, if_pos h139]
    all_goals rfl
  rw [if_neg h139, if_neg h139]
  by_cases h149 : i ≤ 171
  · rw [if_pos h149, if_pos h149]
    all_goals rfl
  rw [if_neg h149, if_neg h149]
  by_cases h159 : i = 172
  · rw [if_pos h159, if_pos h159]
    all_goals rfl
  rw [if_neg h159, if_neg h159]
  by_cases h169 : i = 173
  · rw [if_pos h169, if_pos h169]
    all_goals rfl
  rw [if_neg h169, if_neg h169]
  by_cases h179 : i = 174
  · rw [if_pos h179, if_pos h179]
    all_goals rfl
  rw [if_neg h179, if_neg h179]
  by_cases h189 : i = 175
  · rw [if_pos h189, if_pos h189]
    all_goals rfl
  rw [if_neg h189, if_neg h189]
  exfalso
  omega
/-! ===== the law's own methods: calls that catch, the rows for the answers ===== -/
def bxc {ρ τ : Type} (spc : Option (Nat × τ × Wo)) (g : τ → Wo → Option ρ) (h : Nat → Wo → Option ρ) : Option ρ := spc.bind (fun r => if r.1 = 0 then g r.2.1 r.2.2 else h r.1 r.2.2)
def catches (tbl : List ExceptionTableEntry) (pc x : Nat) (z : ExceptionTableEntry) : Prop := ∃ pre suf, tbl = pre ++ z :: suf ∧ (∀ w ∈ pre, covers w pc = false ∨ (w.catchType ≠ 0 ∧ ∃ nm, (w.catchType, nm) ∈ lkL ∧ nm ∈ exL ∧ exN x ≠ nm)) ∧ covers z pc = true ∧ z.catchType ≠ 0 ∧ (z.catchType, exN x) ∈ lkL ∧ exN x ∈ exL
theorem lay_pL {G : Gt} {S : Wo} {x : Int64} {c0 : va_E} {H : Heap} (hP : va_P G.1 vwCl ((lay G S).set 175 (gB G + 175, .inl (G.2.1 4, (1, .inr (.inl (vp_updL (fun _ => S.2.2.2.1) 0 x)))))) H) (hD : va_D (Af G) ((lay G S).set 175 (gB G + 175, .inl (G.2.1 4, (1, .inr (.inl (vp_updL (fun _ => S.2.2.2.1) 0 x))))))) : va_P G.1 vwCl (lay G (pL S x)) H ∧ va_D (Af G) (lay G (pL S x)) := by
  have e9 := lay_set (G := G) (S := S) (T := pL S x) (i := 175) (by decide) (fun _ => rfl) (fun j hj => cel_sel rfl rfl (fun _ => rfl) (fun _ => rfl) (fun _ => rfl) (fun h => absurd h hj) (fun _ => rfl)) (x := .inl (G.2.1 4, (1, .inr (.inl (fun _ => x))))) rfl
  rw [adr_ne (by decide)] at e9
  have h175 : ((lay G S).set 175 (gB G + 175, (.inl (G.2.1 4, (1, .inr (.inl (vp_updL (fun _ => S.2.2.2.1) 0 x)))) : va_E)))[175]? = some (gB G + 175, .inl (G.2.1 4, (1, .inr (.inl (vp_updL (fun _ => S.2.2.2.1) 0 x))))) := by
    rw [List.getElem?_set_self (by rw [lay_len]; decide)]
  have hcell : va_at G.1 vwCl (gB G + 175, (.inl (G.2.1 4, (1, .inr (.inl (fun _ => x)))) : va_E)) H := by
    have h1 : H[gB G + 175]? = some (vp_cell (G.2.1 4) (1, .inr (.inl (vp_updL (fun _ => S.2.2.2.1) 0 x)))) := hP 175 _ h175
    show H[gB G + 175]? = some (vp_cell (G.2.1 4) (1, .inr (.inl (fun _ => x))))
    rw [h1, vp_cell_l, vp_cell_l]
    have e8 : (fun j : Fin 1 => Value.long (vp_updL (fun _ => S.2.2.2.1) 0 x j.val)) = (fun j : Fin 1 => Value.long x) := funext fun j => by
      have hj : j.val = 0 := by omega
      rw [hj]
      rfl
    show some ({ cls := G.2.1 4, slots := Array.ofFn (n := 1) fun j => Value.long (vp_updL (fun _ => S.2.2.2.1) 0 x j.val), vm := .none } : Cell) = some ({ cls := G.2.1 4, slots := Array.ofFn (n := 1) fun j => Value.long x, vm := .none } : Cell)
    rw [e8]
  have hP2 := hP.set hD h175 hcell (fun _ _ => rfl)
  have hD2 := hD.set (e := (.inl (G.2.1 4, (1, .inr (.inl (fun _ => x)))) : va_E)) h175
  rw [List.set_set, e9] at hP2 hD2
  exact ⟨hP2, hD2⟩
theorem lay_pD {G : Gt} {S : Wo} {x : UInt64} {H : Heap} (hP : va_P G.1 vwCl ((lay G S).set 176 (gB G + 176, .inl (G.2.1 5, (1, .inr (.inr (.inr (.inl (vf_upd (fun _ => S.2.2.2.2) 0 x)))))))) H) (hD : va_D (Af G) ((lay G S).set 176 (gB G + 176, .inl (G.2.1 5, (1, .inr (.inr (.inr (.inl (vf_upd (fun _ => S.2.2.2.2) 0 x))))))))) : va_P G.1 vwCl (lay G (pD S x)) H ∧ va_D (Af G) (lay G (pD S x)) := by
  have hc : ∀ j, j ≠ 176 → j < 177 → cel G (pD S x) j = cel G S j := by
    intro j hj h7
    by_cases h5 : j = 175
    · subst h5; rfl
    · exact cel_selD rfl rfl rfl rfl rfl (by omega)
  have h176 : ((lay G S).set 176 (gB G + 176, (.inl (G.2.1 5, (1, .inr (.inr (.inr (.inl (vf_upd (fun _ => S.2.2.2.2) 0 x)))))) : va_E)))[176]? = some (gB G + 176, .inl (G.2.1 5, (1, .inr (.inr (.inr (.inl (vf_upd (fun _ => S.2.2.2.2) 0 x))))))) := by
    rw [List.getElem?_set_self (by rw [lay_len]; decide)]
  have hcell : va_at G.1 vwCl (gB G + 176, (.inl (G.2.1 5, (1, .inr (.inr (.inr (.inl (fun _ => x)))))) : va_E)) H := by
    have h1 : H[gB G + 176]? = some (vp_cell (G.2.1 5) (1, .inr (.inr (.inr (.inl (vf_upd (fun _ => S.2.2.2.2) 0 x)))))) := hP 176 _ h176
    show H[gB G + 176]? = some (vp_cell (G.2.1 5) (1, .inr (.inr (.inr (.inl (fun _ => x))))))
    rw [h1, vp_cell_d, vp_cell_d]
    have e8 : (fun j : Fin 1 => Value.double (vf_upd (fun _ => S.2.2.2.2) 0 x j.val)) = (fun j : Fin 1 => Value.double x) := funext fun j => by
      have hj : j.val = 0 := by omega
      rw [hj]
      rfl
    show some ({ cls := G.2.1 5, slots := Array.ofFn (n := 1) fun j => Value.double (vf_upd (fun _ => S.2.2.2.2) 0 x j.val), vm := .none } : Cell) = some ({ cls := G.2.1 5, slots := Array.ofFn (n := 1) fun j => Value.double x, vm := .none } : Cell)
    rw [e8]
  have e9 : ((lay G S).set 176 (gB G + 176, (.inl (G.2.1 5, (1, .inr (.inr (.inr (.inl (fun _ => x)))))) : va_E))) = lay G (pD S x) := by
    apply List.ext_getElem?
    intro j
    rw [List.getElem?_set]
    by_cases hj : 176 = j
    · subst hj
      rw [if_pos rfl, lay_len, if_pos (by decide), lay_at (by decide)]
      rfl
    · rw [if_neg hj]
      by_cases h2 : j < 177
      · rw [lay_at h2, lay_at h2, hc j (fun e => hj e.symm) h2]
        rfl
      · rw [List.getElem?_eq_none (by rw [lay_len]; omega), List.getElem?_eq_none (by rw [lay_len]; omega)]
  have hP2 := hP.set hD h176 hcell (fun _ _ => rfl)
  have hD2 := hD.set (e := (.inl (G.2.1 5, (1, .inr (.inr (.inr (.inl (fun _ => x)))))) : va_E)) h176
  rw [List.set_set, e9] at hP2 hD2
  exact ⟨hP2, hD2⟩
section THIRTEEN
variable {ρ : Type} {G : Gt} {p : Program} {l : Launch} {e : Env} {R : Room} {s : State} {m : MethodId} {args : Array Value} {below : List Frame} {meth : Method} {c : Code} {nL : Nat} {Qf : ρ → State → Prop} {sp A B : Option ρ} {f : Wo → Option ρ} {k n index mc ms bi ci N maxL : Nat} {S : Wo} {pc : Nat} {lv lv' : List (Nat × Value)} {st st' : List Value} {own C : String} {T : u_T} {fs : List Value} {Ts ws : List Cond} {cc bytes : ByteArray} {rt ret : Option FieldType} {rm' : Room} {As : List Value} {y : MethodName}
theorem vs_i2lw {x : Int32} (X : Cx G p s m args meth c own Ts cc nL rt) (d : decode cc pc = .ok (.i2l, 1)) (kk : VS G p l e R s m args below meth c nL Qf sp k n S (pc + 1) lv (.long x.toInt64 :: st)) : VS G p l e R s m args below meth c nL Qf sp k n S pc lv (.int x :: st) := fun r hr H locs ls hP hD hS hl => lv_i2l X.1 X.2.1 d rfl (kk r hr H locs ls hP hD hS hl)
theorem vs_last {x : Int64} (X : Cx G p s m args meth c own Ts cc nL rt) (d : decode cc pc = .ok (.lastore, 1)) (kk : ∀ S1, S1 = pL S x → VS G p l e R s m args below meth c nL Qf (f S1) k n S1 (pc + 1) lv st) : VS G p l e R s m args below meth c nL Qf (wr (pL S x) f) k n S pc lv (.long x :: .int 0 :: rf G 175 :: st) := by
  intro r hr H locs ls hP hD hS hl
  refine va_last X.1 X.2.1 X.2.2.2.2.2.2.2.1 hP hD hS 175 4 (lay_ne (by decide) (by decide) rfl) rfl (inb_in.mp (by decide)) d (fun H1 locs1 hP1 hD1 hS1 => ?_)
  obtain ⟨hP2, hD2⟩ := lay_pL (c0 := celReg G S) hP1 hD1
  exact kk _ rfl r hr H1 locs1 ls hP2 hD2 hS1 hl
theorem vs_dast {x : UInt64} (X : Cx G p s m args meth c own Ts cc nL rt) (d : decode cc pc = .ok (.dastore, 1)) (kk : ∀ S1, S1 = pD S x → VS G p l e R s m args below meth c nL Qf (f S1) k n S1 (pc + 1) lv st) : VS G p l e R s m args below meth c nL Qf (wr (pD S x) f) k n S pc lv (.double x :: .int 0 :: rf G 176 :: st) := by
  intro r hr H locs ls hP hD hS hl
  refine va_dast X.1 X.2.1 X.2.2.2.2.2.2.2.1 hP hD hS 176 5 (lay_ne (by decide) (by decide) rfl) rfl (inb_in.mp (by decide)) d (fun H1 locs1 hP1 hD1 hS1 => ?_)
  obtain ⟨hP2, hD2⟩ := lay_pD hP1 hD1
  exact kk _ rfl r hr H1 locs1 ls hP2 hD2 hS1 hl
theorem vs_callVcI {spc : Option (Nat × Int32 × Wo)} {g : Int32 → Wo → Option ρ} {h : Nat → Wo → Option ρ} (X : Cx G p s m args meth c own Ts cc nL rt) (hM : ∀ r, spc = some r → MXI l y ws rm' G S (rf G bi :: As) r mc ms) (cw : CallW R s args own C index y bytes maxL ret ws rm' mc ms As.length) (hi : bi < 177) (h5 : bi ≠ 165) (hc : cel G S bi = .inr (ci, fs)) (hcl : vwCl[ci]? = some (C, T, N)) (hst : st = As.reverse ++ rf G bi :: st') (hsz : (st'.map fun v => v.category).sum ≤ 8) (d : decode cc pc = .ok (.invokevirtual index, 3)) (hf : k + mc ≤ R.cells ∧ n + ms ≤ R.slots) (ho9 : own = "ScarecrowRegistryLaw") (hx : ∀ x S1 r', h x S1 = some r' → ∃ z, catches c.exceptionTable.toList pc x z ∧ ∀ q, VS G p l e R s m args below meth c nL Qf (h x S1) (k + mc) (n + ms) S1 z.handlerPc lv [.ref q]) (kk : ∀ (x : Int32) (S1 : Wo), VS G p l e R s m args below meth c nL Qf (g x S1) (k + mc) (n + ms) S1 (pc + 3) lv (.int x :: st')) : VS G p l e R s m args below meth c nL Qf (bxc spc g h) k n S pc lv st := by
  subst ho9
  intro r hr H locs ls hP hD hS hl
  obtain ⟨q, hq, hf9⟩ := Option.bind_eq_some_iff.mp hr
  subst hst
  refine vx_calli (vx_runV (As := As) (rest := st') ⟨X.1, X.2.1, X.2.2.1, X.2.2.2.1, X.2.2.2.2.1⟩ (hM q hq) cw ⟨PreM.blind, va_recv X.2.2.2.2.2.2.2.1 hP hcl (lay_ne hi h5 hc), fun U hU hW => ⟨rfl, X.2.2.2.2.2.2.2.to hS hU hW, by rw [hU]; exact hP, hD⟩⟩ rfl rfl hl.1 rfl (lv_room hsz) d hf) hS (fun q _ h => h) (fun q h => h) (fun q _ h => h) (fun E ce q9 u t H1 locs1 ht hvm hw hB hz hk hS1 hce hcv hcl9 => ?_) (fun x u t H1 locs1 ht hvm hw hB hz hk hS1 => ?_)
  · obtain ⟨h0, rfl⟩ := hw
    obtain ⟨hE, hP1, hD1⟩ := hB
    rw [if_neg h0] at hf9
    rw [ht] at hP1
    obtain ⟨z, ⟨pre, suf, hsplit, hpass, hcov, hct, hlk, hex⟩, hk9⟩ := hx _ _ _ hf9
    subst hE
    refine vx_catch (name := exN q.1) X.2.2.2.1 pre z suf hsplit (fun w hw => ?_) hcov hct (va_Nw.use rfl (X.2.2.2.2.2.2.2.2.2.2.2.2.1.2.2.2.2 _ hlk)) (va_Nw.use rfl (X.2.2.2.2.2.2.2.2.2.2.2.2.1.2.1 _ hex)) hce hcv hcl9 (hk9 q9 r hf9 H1 locs1 ls hP1 hD1 hS1 hl)
    rcases hpass w hw with h | ⟨h1, nm, h2, h3, h4⟩
    · exact Or.inl h
    · exact Or.inr ⟨h1, nm, va_Nw.use rfl (X.2.2.2.2.2.2.2.2.2.2.2.2.1.2.2.2.2 _ h2), X.2.2.2.2.2.2.2.2.2.2.2.2.1.1 _ hex _ h3 h4⟩
  · obtain ⟨h0, rfl, rfl⟩ := hw
    obtain ⟨hP1, hD1⟩ := hB
    rw [ht] at hP1
    rw [if_pos h0] at hf9
    exact kk _ _ r hf9 H1 locs1 ls hP1 hD1 hS1 hl
theorem vs_callVcD {spc : Option (Nat × UInt64 × Wo)} {g : UInt64 → Wo → Option ρ} {h : Nat → Wo → Option ρ} (X : Cx G p s m args meth c own Ts cc nL rt) (hM : ∀ r, spc = some r → MXD l y ws rm' G S (rf G bi :: As) r mc ms) (cw : CallW R s args own C index y bytes maxL ret ws rm' mc ms As.length) (hi : bi < 177) (h5 : bi ≠ 165) (hc : cel G S bi = .inr (ci, fs)) (hcl : vwCl[ci]? = some (C, T, N)) (hst : st = As.reverse ++ rf G bi :: st') (hsz : (st'.map fun v => v.category).sum ≤ 8) (d : decode cc pc = .ok (.invokevirtual index, 3)) (hf : k + mc ≤ R.cells ∧ n + ms ≤ R.slots) (ho9 : own = "ScarecrowRegistryLaw") (hx : ∀ x S1 r', h x S1 = some r' → ∃ z, catches c.exceptionTable.toList pc x z ∧ ∀ q, VS G p l e R s m args below meth c nL Qf (h x S1) (k + mc) (n + ms) S1 z.handlerPc lv [.ref q]) (kk : ∀ (x : UInt64) (S1 : Wo), VS G p l e R s m args below meth c nL Qf (g x S1) (k + mc) (n + ms) S1 (pc + 3) lv (.double x :: st')) : VS G p l e R s m args below meth c nL Qf (bxc spc g h) k n S pc lv st := by
  subst ho9
  intro r hr H locs ls hP hD hS hl
  obtain ⟨q, hq, hf9⟩ := Option.bind_eq_some_iff.mp hr
  subst hst
  refine vx_calld (vx_runV (As := As) (rest := st') ⟨X.1, X.2.1, X.2.2.1, X.2.2.2.1, X.2.2.2.2.1⟩ (hM q hq) cw ⟨PreM.blind, va_recv X.2.2.2.2.2.2.2.1 hP hcl (lay_ne hi h5 hc), fun U hU hW => ⟨rfl, X.2.2.2.2.2.2.2.to hS hU hW, by rw [hU]; exact hP, hD⟩⟩ rfl rfl hl.1 rfl (lv_room hsz) d hf) hS (fun q _ h => h) (fun q h => h) (fun q _ h => h) (fun E ce q9 u t H1 locs1 ht hvm hw hB hz hk hS1 hce hcv hcl9 => ?_) (fun x u t H1 locs1 ht hvm hw hB hz hk hS1 => ?_)
  · obtain ⟨h0, rfl⟩ := hw
    obtain ⟨hE, hP1, hD1⟩ := hB
    rw [if_neg h0] at hf9
    rw [ht] at hP1
    obtain ⟨z, ⟨pre, suf, hsplit, hpass, hcov, hct, hlk, hex⟩, hk9⟩ := hx _ _ _ hf9
    subst hE
    refine vx_catch (name := exN q.1) X.2.2.2.1 pre z suf hsplit (fun w hw => ?_) hcov hct (va_Nw.use rfl (X.2.2.2.2.2.2.2.2.2.2.2.2.1.2.2.2.2 _ hlk)) (va_Nw.use rfl (X.2.2.2.2.2.2.2.2.2.2.2.2.1.2.1 _ hex)) hce hcv hcl9 (hk9 q9 r hf9 H1 locs1 ls hP1 hD1 hS1 hl)
    rcases hpass w hw with h | ⟨h1, nm, h2, h3, h4⟩
    · exact Or.inl h
    · exact Or.inr ⟨h1, nm, va_Nw.use rfl (X.2.2.2.2.2.2.2.2.2.2.2.2.1.2.2.2.2 _ h2), X.2.2.2.2.2.2.2.2.2.2.2.2.1.1 _ hex _ h3 h4⟩
  · obtain ⟨h0, rfl, rfl⟩ := hw
    obtain ⟨hP1, hD1⟩ := hB
    rw [ht] at hP1
    rw [if_pos h0] at hf9
    exact kk _ _ r hf9 H1 locs1 ls hP1 hD1 hS1 hl
theorem vs_callVcF {spc : Option (Nat × UInt32 × Wo)} {g : UInt32 → Wo → Option ρ} {h : Nat → Wo → Option ρ} (X : Cx G p s m args meth c own Ts cc nL rt) (hM : ∀ r, spc = some r → MXF l y ws rm' G S (rf G bi :: As) r mc ms) (cw : CallW R s args own C index y bytes maxL ret ws rm' mc ms As.length) (hi : bi < 177) (h5 : bi ≠ 165) (hc : cel G S bi = .inr (ci, fs)) (hcl : vwCl[ci]? = some (C, T, N)) (hst : st = As.reverse ++ rf G bi :: st') (hsz : (st'.map fun v => v.category).sum ≤ 8) (d : decode cc pc = .ok (.invokevirtual index, 3)) (hf : k + mc ≤ R.cells ∧ n + ms ≤ R.slots) (ho9 : own = "ScarecrowRegistryLaw") (hx : ∀ x S1 r', h x S1 = some r' → ∃ z, catches c.exceptionTable.toList pc x z ∧ ∀ q, VS G p l e R s m args below meth c nL Qf (h x S1) (k + mc) (n + ms) S1 z.handlerPc lv [.ref q]) (kk : ∀ (x : UInt32) (S1 : Wo), VS G p l e R s m args below meth c nL Qf (g x S1) (k + mc) (n + ms) S1 (pc + 3) lv (.float x :: st')) : VS G p l e R s m args below meth c nL Qf (bxc spc g h) k n S pc lv st := by
  subst ho9
  intro r hr H locs ls hP hD hS hl
  obtain ⟨q, hq, hf9⟩ := Option.bind_eq_some_iff.mp hr
  subst hst
  refine vx_callf (vx_runV (As := As) (rest := st') ⟨X.1, X.2.1, X.2.2.1, X.2.2.2.1, X.2.2.2.2.1⟩ (hM q hq) cw ⟨PreM.blind, va_recv X.2.2.2.2.2.2.2.1 hP hcl (lay_ne hi h5 hc), fun U hU hW => ⟨rfl, X.2.2.2.2.2.2.2.to hS hU hW, by rw [hU]; exact hP, hD⟩⟩ rfl rfl hl.1 rfl (lv_room hsz) d hf) hS (fun q _ h => h) (fun q h => h) (fun q _ h => h) (fun E ce q9 u t H1 locs1 ht hvm hw hB hz hk hS1 hce hcv hcl9 => ?_) (fun x u t H1 locs1 ht hvm hw hB hz hk hS1 => ?_)
  · obtain ⟨h0, rfl⟩ := hw
    obtain ⟨hE, hP1, hD1⟩ := hB
    rw [if_neg h0] at hf9
    rw [ht] at hP1
    obtain ⟨z, ⟨pre, suf, hsplit, hpass, hcov, hct, hlk, hex⟩, hk9⟩ := hx _ _ _ hf9
    subst hE
    refine vx_catch (name := exN q.1) X.2.2.2.1 pre z suf hsplit (fun w hw => ?_) hcov hct (va_Nw.use rfl (X.2.2.2.2.2.2.2.2.2.2.2.2.1.2.2.2.2 _ hlk)) (va_Nw.use rfl (X.2.2.2.2.2.2.2.2.2.2.2.2.1.2.1 _ hex)) hce hcv hcl9 (hk9 q9 r hf9 H1 locs1 ls hP1 hD1 hS1 hl)
    rcases hpass w hw with h | ⟨h1, nm, h2, h3, h4⟩
    · exact Or.inl h
    · exact Or.inr ⟨h1, nm, va_Nw.use rfl (X.2.2.2.2.2.2.2.2.2.2.2.2.1.2.2.2.2 _ h2), X.2.2.2.2.2.2.2.2.2.2.2.2.1.1 _ hex _ h3 h4⟩
  · obtain ⟨h0, rfl, rfl⟩ := hw
    obtain ⟨hP1, hD1⟩ := hB
    rw [ht] at hP1
    rw [if_pos h0] at hf9
    exact kk _ _ r hf9 H1 locs1 ls hP1 hD1 hS1 hl
theorem MXIH_of {y : MethodName} {ws ws' : List Cond} {rm : Room} {av : List Value} {mc ms maxL : Nat} {ret : Option FieldType} {hh : List (Nat × Nat × Nat × Nat)} {sp : Option (Nat × Int32 × Wo)} (hy : plainName y.cls = true) (hown : y.cls = own) (hw : ws = Cond.codeWith y cc maxL ret hh :: ws') (hlen : (lg_sl av).length ≤ maxL) (body : ∀ (p : Program) (e : Env) (s : State) (m : MethodId) (args : Array Value) (below : List Frame) (meth : Method) (c : Code), Cx G p s m args meth c own ws cc maxL ret → c.exceptionTable.toList = tableOf hh → VS G p l e rm s m args below meth c maxL (fun r => vx_MQ below (QxI G r) (QxX G r) args s mc ms (Af G)) sp 0 0 S 0 (lv_args 0 av) []) : ∀ r, sp = some r → MXI l y ws rm G S av r mc ms := by
  intro r hr
  refine vx_ofWH (cc := cc) (maxL := maxL) (ret := ret) (hh := hh) hy hw ?_
  intro p e s m args below meth c s₁ B hml hv
  obtain ⟨rfl, hK, hP, hD⟩ := hv
  have hl := lv_entry av hlen
  rw [lg_entry_eq]
  have hts := atoms_spec (ws := ws) B.pre
  exact body p e s m _ below meth c ⟨B.exec, B.bytes, hml, by rw [← hown]; exact findClass_of_methodNamed B.named, hts, B.returns, B.notSynchronized, hK⟩ (vx_table (x := y) B (hts _ (by rw [hw]; exact List.mem_cons_self))) r hr s.heap [] _ hP hD va_S.rf hl
end THIRTEEN
