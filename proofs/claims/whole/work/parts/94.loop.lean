/-! ===== the law's loop ===== -/
theorem gt4 {L i : Nat} (hL : L ≤ 2048) (hi : i ≤ 4096) : nI L - 4 < nI i ↔ L < i + 4 := by
  by_cases h : 4 ≤ L
  · have e : nI L - (4 : Int32) = nI (L - 4) := q_sub (a := L) (b := 4) (by omega)
    rw [e]
    constructor
    · intro z
      by_cases q : i ≤ L - 4
      · exact absurd z (nI_nlt q (by omega))
      · omega
    · intro z; exact nI_lt (by omega) (by omega)
  · refine ⟨fun _ => by omega, fun _ => ?_⟩
    have hp : (0 : Int32) ≤ nI i := nI_pos' (by omega)
    have hn : nI L - (4 : Int32) < 0 := by
      rcases (by omega : L = 0 ∨ L = 1 ∨ L = 2 ∨ L = 3) with z | z | z | z <;> (subst z; decide)
    rw [Int32.lt_iff_toInt_lt] at hn ⊢
    rw [Int32.le_iff_toInt_le] at hp
    omega
section LAWT
variable {ρ : Type} {G : Gt} {p : Program} {l : Launch} {e : Env} {R : Room} {s : State} {m : MethodId} {args : Array Value} {below : List Frame} {meth : Method} {c : Code} {nL : Nat} {Qf : ρ → State → Prop} {sp : Option ρ} {k n : Nat} {S : Wo} {pc : Nat} {lv : List (Nat × Value)} {st : List Value} {own : String} {Ts : List Cond} {cc : ByteArray} {rt : Option FieldType}
theorem vu_tab {dflt lo hi off : Int} {offs : Array Int} {len tgt : Nat} {x v : Int32} (X : Cx G p s m args meth c own Ts cc nL rt) (d : decode cc pc = .ok (.tableswitch dflt lo hi offs, len)) (h1 : ¬ v.toInt < lo) (h2 : ¬ hi < v.toInt) (ho : offs[(v.toInt - lo).toNat]? = some off) (ht : (pc : Int) + off = (tgt : Int)) (kA : x = v → VS G p l e R s m args below meth c nL Qf sp k n S tgt lv st) (kB : ¬ x = v → VS G p l e R s m args below meth c nL Qf sp k n S pc lv (.int x :: st)) : VS G p l e R s m args below meth c nL Qf sp k n S pc lv (.int x :: st) := vs_eq (sp' := if x = v then sp else sp) (by split <;> rfl) (vs_tab X d h1 h2 ho ht kA kB)
end LAWT
section LAWO
variable {G : Gt} {p : Program} {l : Launch} {e : Env} {s : State} {m : MethodId} {below : List Frame} {meth : Method} {c : Code} {Z : State → Prop} {b L i k n D : Nat} {xs : Nat → Int32} {rt : Option FieldType} {S : Wo} {x : AX}
set_option maxHeartbeats 4000000 in
set_option maxRecDepth 100000 in
theorem law_body (hl0 : l.stackTraces = false) (X : Cx G p s m #[Value.ref b] meth c "ScarecrowRegistryLaw" wsL_law cL_law 9 rt) (hX : va_X b L xs s s.heap) (hb : b < s.heap.size) (hA : ¬ Af G b) (hi : i + 3 < L) (hL : L ≤ 2048) (hI : Inv D x S) (hD : D + 900 ≤ 900000) (hk : k + 2 ≤ 603072) (hn : n + 34 ≤ 7170154) (kk : ∀ T x' k' n', Inv (D + 900) x' T → k' ≤ k + 2 → n' ≤ n + 34 → LVW G p l e s m b below meth c Z k' n' T 2568 [(0, .ref b), (1, rf G 0), (2, rf G 166), (3, rf G 175), (4, rf G 176), (5, .int (nI i))] []) : LVW G p l e s m b below meth c Z k n S 37 [(0, .ref b), (1, rf G 0), (2, rf G 166), (3, rf G 175), (4, rf G 176), (5, .int (nI i))] [] := by
  have h0 : vp_in (nI i) L := inb_in.mp (q_in (by omega) (by omega))
  refine vs_aload_n X dL_law_37 0 rfl ?_
  refine vs_iload X dL_law_38 5 rfl ?_
  refine vu_sld X hX hb hA h0 dL_law_40 ?_
  refine vs_bipush X (v := 63) dL_law_41 (by decide) ?_
  refine vs_iand X dL_law_43 ?_
  generalize (xs (nI i).toNatClampNeg &&& 63) = v
  refine vu_tab X (v := 0) (off := 216) (tgt := 260) dL_law_44 (by decide) (by decide) rfl (by decide) (fun _ => lc_register hl0 X hX hb hA hi hL hI hD hk hn kk) (fun n0 => ?_)
  refine vu_tab X (v := 1) (off := 272) (tgt := 316) dL_law_44 (by decide) (by decide) rfl (by decide) (fun _ => lc_move hl0 X hX hb hA hi hL hI hD hk hn kk) (fun n1 => ?_)
  refine vu_tab X (v := 2) (off := 340) (tgt := 384) dL_law_44 (by decide) (by decide) rfl (by decide) (fun _ => lc_setRevoked hl0 X hX hb hA hi hL hI hD hk hn kk) (fun n2 => ?_)
  refine vu_tab X (v := 3) (off := 424) (tgt := 468) dL_law_44 (by decide) (by decide) rfl (by decide) (fun _ => lc_scarecrowCount hl0 X hX hb hA hi hL hI hD hk hn kk) (fun n3 => ?_)
  refine vu_tab X (v := 4) (off := 437) (tgt := 481) dL_law_44 (by decide) (by decide) rfl (by decide) (fun _ => lc_fieldOf hl0 X hX hb hA hi hL hI hD hk hn kk) (fun n4 => ?_)
  refine vu_tab X (v := 5) (off := 493) (tgt := 537) dL_law_44 (by decide) (by decide) rfl (by decide) (fun _ => lc_scarecrowOn hl0 X hX hb hA hi hL hI hD hk hn kk) (fun n5 => ?_)
  refine vu_tab X (v := 6) (off := 549) (tgt := 593) dL_law_44 (by decide) (by decide) rfl (by decide) (fun _ => lc_isRevoked hl0 X hX hb hA hi hL hI hD hk hn kk) (fun n6 => ?_)
  refine vu_tab X (v := 7) (off := 612) (tgt := 656) dL_law_44 (by decide) (by decide) rfl (by decide) (fun _ => lc_isCertified hl0 X hX hb hA hi hL hI hD hk hn kk) (fun n7 => ?_)
  refine vu_tab X (v := 8) (off := 675) (tgt := 719) dL_law_44 (by decide) (by decide) rfl (by decide) (fun _ => lc_isCertifiedByChains hl0 X hX hb hA hi hL hI hD hk hn kk) (fun n8 => ?_)
  refine vu_tab X (v := 9) (off := 738) (tgt := 782) dL_law_44 (by decide) (by decide) rfl (by decide) (fun _ => lc_chainLength hl0 X hX hb hA hi hL hI hD hk hn kk) (fun n9 => ?_)
  refine vu_tab X (v := 10) (off := 794) (tgt := 838) dL_law_44 (by decide) (by decide) rfl (by decide) (fun _ => lc_daysUntilUncertified hl0 X hX hb hA hi hL hI hD hk hn kk) (fun n10 => ?_)
  refine vu_tab X (v := 11) (off := 850) (tgt := 894) dL_law_44 (by decide) (by decide) rfl (by decide) (fun _ => lc_scarecrowByCertificates hl0 X hX hb hA hi hL hI hD hk hn kk) (fun n11 => ?_)
  refine vu_tab X (v := 12) (off := 906) (tgt := 950) dL_law_44 (by decide) (by decide) rfl (by decide) (fun _ => lc_issueByRegistry hl0 X hX hb hA hi hL hI hD hk hn kk) (fun n12 => ?_)
  refine vu_tab X (v := 13) (off := 974) (tgt := 1018) dL_law_44 (by decide) (by decide) rfl (by decide) (fun _ => lc_issue hl0 X hX hb hA hi hL hI hD hk hn kk) (fun n13 => ?_)
  refine vu_tab X (v := 14) (off := 1054) (tgt := 1098) dL_law_44 (by decide) (by decide) rfl (by decide) (fun _ => lc_withdraw hl0 X hX hb hA hi hL hI hD hk hn kk) (fun n14 => ?_)
  refine vu_tab X (v := 15) (off := 1110) (tgt := 1154) dL_law_44 (by decide) (by decide) rfl (by decide) (fun _ => lc_certificateCount hl0 X hX hb hA hi hL hI hD hk hn kk) (fun n15 => ?_)
  refine vu_tab X (v := 16) (off := 1123) (tgt := 1167) dL_law_44 (by decide) (by decide) rfl (by decide) (fun _ => lc_isByRegistry hl0 X hX hb hA hi hL hI hD hk hn kk) (fun n16 => ?_)
  refine vu_tab X (v := 17) (off := 1186) (tgt := 1230) dL_law_44 (by decide) (by decide) rfl (by decide) (fun _ => lc_issuerOf hl0 X hX hb hA hi hL hI hD hk hn kk) (fun n17 => ?_)
  refine vu_tab X (v := 18) (off := 1242) (tgt := 1286) dL_law_44 (by decide) (by decide) rfl (by decide) (fun _ => lc_subjectOf hl0 X hX hb hA hi hL hI hD hk hn kk) (fun n18 => ?_)
  refine vu_tab X (v := 19) (off := 1298) (tgt := 1342) dL_law_44 (by decide) (by decide) rfl (by decide) (fun _ => lc_addressOf hl0 X hX hb hA hi hL hI hD hk hn kk) (fun n19 => ?_)
  refine vu_tab X (v := 20) (off := 1354) (tgt := 1398) dL_law_44 (by decide) (by decide) rfl (by decide) (fun _ => lc_lastDayOf hl0 X hX hb hA hi hL hI hD hk hn kk) (fun n20 => ?_)
  refine vu_tab X (v := 21) (off := 1410) (tgt := 1454) dL_law_44 (by decide) (by decide) rfl (by decide) (fun _ => lc_isInForce hl0 X hX hb hA hi hL hI hD hk hn kk) (fun n21 => ?_)
  refine vu_tab X (v := 22) (off := 1473) (tgt := 1517) dL_law_44 (by decide) (by decide) rfl (by decide) (fun _ => lc_inForceCount hl0 X hX hb hA hi hL hI hD hk hn kk) (fun n22 => ?_)
  refine vu_tab X (v := 23) (off := 1486) (tgt := 1530) dL_law_44 (by decide) (by decide) rfl (by decide) (fun _ => lc_sow hl0 X hX hb hA hi hL hI hD hk hn kk) (fun n23 => ?_)
  refine vu_tab X (v := 24) (off := 1554) (tgt := 1598) dL_law_44 (by decide) (by decide) rfl (by decide) (fun _ => lc_pass hl0 X hX hb hA hi hL hI hD hk hn kk) (fun n24 => ?_)
  refine vu_tab X (v := 25) (off := 1610) (tgt := 1654) dL_law_44 (by decide) (by decide) rfl (by decide) (fun _ => lc_predictEaten hl0 X hX hb hA hi hL hI hD hk hn kk) (fun n25 => ?_)
  refine vu_tab X (v := 26) (off := 1666) (tgt := 1710) dL_law_44 (by decide) (by decide) rfl (by decide) (fun _ => lc_day hl0 X hX hb hA hi hL hI hD hk hn kk) (fun n26 => ?_)
  refine vu_tab X (v := 27) (off := 1679) (tgt := 1723) dL_law_44 (by decide) (by decide) rfl (by decide) (fun _ => lc_nextLook hl0 X hX hb hA hi hL hI hD hk hn kk) (fun n27 => ?_)
  refine vu_tab X (v := 28) (off := 1692) (tgt := 1736) dL_law_44 (by decide) (by decide) rfl (by decide) (fun _ => lc_grains hl0 X hX hb hA hi hL hI hD hk hn kk) (fun n28 => ?_)
  refine vu_tab X (v := 29) (off := 1748) (tgt := 1792) dL_law_44 (by decide) (by decide) rfl (by decide) (fun _ => lc_isGuarded hl0 X hX hb hA hi hL hI hD hk hn kk) (fun n29 => ?_)
  refine vu_tab X (v := 30) (off := 1811) (tgt := 1855) dL_law_44 (by decide) (by decide) rfl (by decide) (fun _ => lc_guardedFields hl0 X hX hb hA hi hL hI hD hk hn kk) (fun n30 => ?_)
  refine vu_tab X (v := 31) (off := 1824) (tgt := 1868) dL_law_44 (by decide) (by decide) rfl (by decide) (fun _ => lc_guardedFieldsByScarecrows hl0 X hX hb hA hi hL hI hD hk hn kk) (fun n31 => ?_)
  refine vu_tab X (v := 32) (off := 1837) (tgt := 1881) dL_law_44 (by decide) (by decide) rfl (by decide) (fun _ => lc_totalGrains hl0 X hX hb hA hi hL hI hD hk hn kk) (fun n32 => ?_)
  refine vu_tab X (v := 33) (off := 1850) (tgt := 1894) dL_law_44 (by decide) (by decide) rfl (by decide) (fun _ => lc_eaten hl0 X hX hb hA hi hL hI hD hk hn kk) (fun n33 => ?_)
  refine vu_tab X (v := 34) (off := 1863) (tgt := 1907) dL_law_44 (by decide) (by decide) rfl (by decide) (fun _ => lc_sown hl0 X hX hb hA hi hL hI hD hk hn kk) (fun n34 => ?_)
  refine vu_tab X (v := 35) (off := 1876) (tgt := 1920) dL_law_44 (by decide) (by decide) rfl (by decide) (fun _ => lc_meanDaysLeft hl0 X hX hb hA hi hL hI hD hk hn kk) (fun n35 => ?_)
  refine vu_tab X (v := 36) (off := 1941) (tgt := 1985) dL_law_44 (by decide) (by decide) rfl (by decide) (fun _ => lc_inForceShare hl0 X hX hb hA hi hL hI hD hk hn kk) (fun n36 => ?_)
  refine vu_tab X (v := 37) (off := 2007) (tgt := 2051) dL_law_44 (by decide) (by decide) rfl (by decide) (fun _ => lc_feed hl0 X hX hb hA hi hL hI hD hk hn kk) (fun n37 => ?_)
  refine vu_tab X (v := 38) (off := 2065) (tgt := 2109) dL_law_44 (by decide) (by decide) rfl (by decide) (fun _ => lc_execute hl0 X hX hb hA hi hL hI hD hk hn kk) (fun n38 => ?_)
  refine vu_tab X (v := 39) (off := 2109) (tgt := 2153) dL_law_44 (by decide) (by decide) rfl (by decide) (fun _ => lc_faultPosition hl0 X hX hb hA hi hL hI hD hk hn kk) (fun n39 => ?_)
  refine vu_tab X (v := 40) (off := 2153) (tgt := 2197) dL_law_44 (by decide) (by decide) rfl (by decide) (fun _ => lc_writeCertificate hl0 X hX hb hA hi hL hI hD hk hn kk) (fun n40 => ?_)
  refine vu_tab X (v := 41) (off := 2209) (tgt := 2253) dL_law_44 (by decide) (by decide) rfl (by decide) (fun _ => lc_writeFields hl0 X hX hb hA hi hL hI hD hk hn kk) (fun n41 => ?_)
  refine vu_tab X (v := 42) (off := 2222) (tgt := 2266) dL_law_44 (by decide) (by decide) rfl (by decide) (fun _ => lc_lineCharacter hl0 X hX hb hA hi hL hI hD hk hn kk) (fun n42 => ?_)
  refine vu_tab X (v := 43) (off := 2278) (tgt := 2322) dL_law_44 (by decide) (by decide) rfl (by decide) (fun _ => lc_denial hl0 X hX hb hA hi hL hI hD hk hn kk) (fun n43 => ?_)
  refine vu_tab X (v := 44) (off := 2322) (tgt := 2366) dL_law_44 (by decide) (by decide) rfl (by decide) (fun _ => lc_denialDetail hl0 X hX hb hA hi hL hI hD hk hn kk) (fun n44 => ?_)
  refine vu_tab X (v := 45) (off := 2366) (tgt := 2410) dL_law_44 (by decide) (by decide) rfl (by decide) (fun _ => lc_denialCause hl0 X hX hb hA hi hL hI hD hk hn kk) (fun n45 => ?_)
  refine vu_tab X (v := 46) (off := 2410) (tgt := 2454) dL_law_44 (by decide) (by decide) rfl (by decide) (fun _ => lc_undo hl0 X hX hb hA hi hL hI hD hk hn kk) (fun n46 => ?_)
  refine vu_tab X (v := 47) (off := 2454) (tgt := 2498) dL_law_44 (by decide) (by decide) rfl (by decide) (fun _ => lc_undoCount hl0 X hX hb hA hi hL hI hD hk hn kk) (fun n47 => ?_)
  refine vu_tab X (v := 48) (off := 2467) (tgt := 2511) dL_law_44 (by decide) (by decide) rfl (by decide) (fun _ => lc_saveSnapshot hl0 X hX hb hA hi hL hI hD hk hn kk) (fun n48 => ?_)
  refine vu_tab X (v := 49) (off := 2480) (tgt := 2524) dL_law_44 (by decide) (by decide) rfl (by decide) (fun _ => lc_restoreSnapshot hl0 X hX hb hA hi hL hI hD hk hn kk) (fun n49 => ?_)
  refine vs_tabD X (tgt := 2568) dL_law_44 (tab_out [0, 1, 2, 3, 4, 5, 6, 7, 8, 9, 10, 11, 12, 13, 14, 15, 16, 17, 18, 19, 20, 21, 22, 23, 24, 25, 26, 27, 28, 29, 30, 31, 32, 33, 34, 35, 36, 37, 38, 39, 40, 41, 42, 43, 44, 45, 46, 47, 48, 49] ⟨n0, n1, n2, n3, n4, n5, n6, n7, n8, n9, n10, n11, n12, n13, n14, n15, n16, n17, n18, n19, n20, n21, n22, n23, n24, n25, n26, n27, n28, n29, n30, n31, n32, n33, n34, n35, n36, n37, n38, n39, n40, n41, n42, n43, n44, n45, n46, n47, n48, n49, trivial⟩ (by decide +kernel)) (by decide) ?_
  exact kk S _ _ _ (hI.up (by omega) (by omega)) (by omega) (by omega)
set_option maxRecDepth 100000 in
theorem law_loop (hl0 : l.stackTraces = false) (X : Cx G p s m #[Value.ref b] meth c "ScarecrowRegistryLaw" wsL_law cL_law 9 rt) (hX : va_X b L xs s s.heap) (hb : b < s.heap.size) (hA : ¬ Af G b) (hL : L ≤ 2048) (hend : ∀ k n S i, k ≤ 603072 → n ≤ 7170154 → LVW G p l e s m b below meth c Z k n S 2574 [(0, .ref b), (1, rf G 0), (2, rf G 166), (3, rf G 175), (4, rf G 176), (5, .int (nI i))] []) : ∀ f i k n S D x, L < i + 4 * f + 4 → i ≤ 2048 → Inv D x S → D + 900 * f ≤ 900000 → k + 2 * f ≤ 603072 → n + 34 * f ≤ 7170154 → LVW G p l e s m b below meth c Z k n S 28 [(0, .ref b), (1, rf G 0), (2, rf G 166), (3, rf G 175), (4, rf G 176), (5, .int (nI i))] [] := by
  intro f
  induction f with
  | zero =>
    intro i k n S D x hf hi hI hD hk hn
    refine vs_iload X dL_law_28 5 rfl ?_
    refine vs_aload_n X dL_law_30 0 rfl ?_
    refine vu_slen X hX hb hA dL_law_31 ?_
    refine vs_iconst X (v := 4) dL_law_32 (by decide) ?_
    refine vs_isub X dL_law_33 ?_
    refine vu_igt X (tgt := 2574) dL_law_34 (by decide) (fun _ => ?_) (fun z => absurd ((gt4 hL (by omega)).mpr (by omega)) z)
    exact hend k n S i (by omega) (by omega)
  | succ f ih =>
    intro i k n S D x hf hi hI hD hk hn
    refine vs_iload X dL_law_28 5 rfl ?_
    refine vs_aload_n X dL_law_30 0 rfl ?_
    refine vu_slen X hX hb hA dL_law_31 ?_
    refine vs_iconst X (v := 4) dL_law_32 (by decide) ?_
    refine vs_isub X dL_law_33 ?_
    refine vu_igt X (tgt := 2574) dL_law_34 (by decide) (fun _ => ?_) (fun z => ?_)
    · exact hend k n S i (by omega) (by omega)
    · have hi4 : i + 3 < L := by
        by_cases q : L < i + 4
        · exact absurd ((gt4 hL (by omega)).mpr q) z
        · omega
      refine law_body (D := D) (x := x) hl0 X hX hb hA hi4 hL hI (by omega) (by omega) (by omega) (fun T x' k' n' hI' hk' hn' => ?_)
      refine vs_iinc X (v := nI (i + 4)) (lv' := [(5, .int (nI (i + 4))), (0, .ref b), (1, rf G 0), (2, rf G 166), (3, rf G 175), (4, rf G 176)]) dL_law_2568 5 rfl (nI_add (a := i) (b := 4)) (by decide) rfl ?_
      refine vs_goto X (tgt := 28) dL_law_2571 (by decide) ?_
      refine vs_sub [1, 2, 3, 4, 5, 0] (lv' := [(0, .ref b), (1, rf G 0), (2, rf G 166), (3, rf G 175), (4, rf G 176), (5, .int (nI (i + 4)))]) rfl ?_
      exact ih (i + 4) k' n' T (D + 900) x' (by omega) (by omega) hI' (by omega) (by omega) (by omega)
end LAWO
