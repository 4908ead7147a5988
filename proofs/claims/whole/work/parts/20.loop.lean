/-! the law's loop -/
theorem lw_gt {L i : Nat} (hL : L ≤ 3072) (hi : i ≤ 3072) (h : L < i + 6) : Int32.ofNat L - 6 < nI i := by
  rw [Int32.lt_iff_toInt_lt, nI_toInt (by omega), show Int32.ofNat L - 6 = nI L - nI 6 from rfl, pk_sub_toInt (by omega) (by omega)]
  omega
def lw_offs : Array Int := #[80, 172, 240, 320, 376, 444, 512, 575, 679, 727, 787, 855, 923, 1003, 1071, 1139]
theorem lw_sw1 {j : Nat} (h : j < 16) : ¬ (nI j).toInt < 0 := by rw [nI_toInt (by omega)]; omega
theorem lw_sw2 {j : Nat} (h : j < 16) : ¬ 15 < (nI j).toInt := by rw [nI_toInt (by omega)]; omega
theorem lw_sw3 {j : Nat} (h : j < 16) : (#[80, 172, 240, 320, 376, 444, 512, 575, 679, 727, 787, 855, 923, 1003, 1071, 1139] : Array Int)[((nI j).toInt - 0).toNat]? = some (([80, 172, 240, 320, 376, 444, 512, 575, 679, 727, 787, 855, 923, 1003, 1071, 1139] : List Nat).getD j 0 : Int) := by
  rw [nI_toInt (by omega)]
  match j, h with
  | 0, _ => rfl
  | 1, _ => rfl
  | 2, _ => rfl
  | 3, _ => rfl
  | 4, _ => rfl
  | 5, _ => rfl
  | 6, _ => rfl
  | 7, _ => rfl
  | 8, _ => rfl
  | 9, _ => rfl
  | 10, _ => rfl
  | 11, _ => rfl
  | 12, _ => rfl
  | 13, _ => rfl
  | 14, _ => rfl
  | 15, _ => rfl
  | k + 16, hk => exact absurd hk (by omega)
theorem lw_sw4 {j : Nat} (h : j < 16) : ((40 : Nat) : Int) + (([80, 172, 240, 320, 376, 444, 512, 575, 679, 727, 787, 855, 923, 1003, 1071, 1139] : List Nat).getD j 0 : Int) = ((40 + ([80, 172, 240, 320, 376, 444, 512, 575, 679, 727, 787, 855, 923, 1003, 1071, 1139] : List Nat).getD j 0 : Nat) : Int) := by omega
/-- every call on both, from every good state: they agree -/
def lwAll (d x mm : Nat) (Inv : XS → Prop) : Prop := ∀ σ, Inv σ → lwOk x mm σ ∧ ∀ a : Nat → Int32, (lwI d x mm 76 105 [.int (a 1), .int (a 2), .int (a 3), .int (a 4)] [(0, 1), (1, 2)] Inv σ) ∧ (lwI d x mm 77 133 [.int (a 1), .int (a 2)] [(2, 1)] Inv σ) ∧ (lwI d x mm 78 134 [.int (a 1), .int (a 2), .int (a 3)] [(2, 1), (0, 2)] Inv σ) ∧ (lwI d x mm 79 136 [.int (a 1)] [(2, 1)] Inv σ) ∧ (lwI d x mm 80 137 [.int (a 1), .int (a 2)] [(2, 1), (0, 2)] Inv σ) ∧ (lwI d x mm 81 138 [.int (a 1), .int (a 2)] [(2, 1)] Inv σ) ∧ (lwI d x mm 82 139 [.int (a 1)] [(2, 1)] Inv σ) ∧ (lwI d x mm 83 140 [.int (a 1), .int (a 2), .int (a 3), .int (a 4), .int (a 5)] [(2, 1), (1, 2), (0, 3)] Inv σ) ∧ (lwV d x mm 84 141 [.int (a 1), .int (a 2)] [(2, 1), (1, 2), (0, 3)] Inv σ) ∧ (lwV d x mm 85 142 [.int (a 1), .int (a 2), .int (a 3)] [(2, 1), (1, 2)] Inv σ) ∧ (lwI d x mm 86 143 [.int (a 1), .int (a 2)] [(2, 1), (0, 2)] Inv σ) ∧ (lwI d x mm 87 144 [.int (a 1), .int (a 2)] [(2, 1)] Inv σ) ∧ (lwI d x mm 88 145 [.int (a 1), .int (a 2), .int (a 3)] [(2, 1), (0, 2)] Inv σ) ∧ (lwI d x mm 89 146 [.int (a 1), .int (a 2)] [(0, 1)] Inv σ) ∧ (lwI d x mm 90 147 [.int (a 1), .int (a 2)] [(2, 1), (0, 2)] Inv σ) ∧ (lwI d x mm 91 148 [.int (a 1), .int (a 2)] [(2, 1)] Inv σ)
set_option maxHeartbeats 4000000 in
set_option maxRecDepth 100000 in
theorem law_loop {p : Program} {l : Launch} {e : Env} {s : State} {m : MethodId} {below : List Frame} {meth : Method} {c : Code} {D : va_G} {qo ax am : Nat} {cL : ClassId} {b L d x mm : Nat} {xs : Nat → Int32} {Inv : XS → Prop} (hls : l.stackTraces = false) (G : lwH p s m meth c b L xs) (hL : L ≤ 3072) (hAll : lwAll d x mm Inv) (hbd : ∀ σ, Inv σ → σ.1 ≤ 2000 ∧ σ.2.1 ≤ 100000) (hdd : d ≤ 1000) :
    ∀ (n i t : Nat) (σ : XS) (w : XW) (v : Nat → Int64) (H : Heap) (locs : List Loc) (ls : Array Slot), L ≤ i + 6 * n → i ≤ 3072 → t ≤ i → Inv σ → w.1 x = ax → w.1 mm = am → lwPt D (lwA s) s H locs w σ qo cL v → lv_has ls 7 [(0, .ref b), (1, .ref ax), (2, .ref am), (3, .ref qo), (4, .int (nI i))] → W p l e room_1 s m #[Value.ref b] below meth c H locs (σ.1 + 1 + t) (σ.2.1 + 1 + 6 * t) (lw_Z below #[Value.ref b] s) (F0 m 23 ls []) := by
  intro n
  induction n with
  | zero =>
    intro i t σ w v H locs ls hn hi3 hti hI hax ham hpt hl
    obtain ⟨⟨hx, hb, hr, hml, hown, hts0, hX, hbl, hlocks, hgv⟩, hts, htn, hz, hnc⟩ := id G
    have hb3 := hbd σ hI
    refine lv_iload hx hb dL_law_23 (lv_at hl 4 rfl) ?_
    refine lv_aload_n hx hb dL_law_25 rfl (lv_at hl 0 rfl) ?_
    refine va_slen (A := lwA s) hx hb hX hbl (Nat.not_le.mpr hbl) hpt.2.2.1 dL_law_26 ?_
    refine lv_bipush (v := 6) hx hb dL_law_27 (by decide) ?_
    refine lv_isub hx hb dL_law_29 ?_
    refine lv_icmp_gt (tgt := 1253) hx hb dL_law_30 (by decide) (fun _ => ?_) (fun hc => ?_)
    · refine lv_iconst (v := 1) hx hb dL_law_1253 (by decide) ?_
      refine va_forget (fun q hq => hpt.2.2.1.2.2 q hq) ?_
      refine W.widen (k := 601024) (n := 7293034) (by omega) (by omega) ?_
      exact lw_ret hx hb hr hlocks dL_law_1254
    · exact absurd (lw_gt (L := L) (i := i) (by omega) (by omega) (by omega)) hc
  | succ n ih =>
    intro i t σ w v H locs ls hn hi3 hti hI hax ham hpt hl
    obtain ⟨⟨hx, hb, hr, hml, hown, hts0, hX, hbl, hlocks, hgv⟩, hts, htn, hz, hnc⟩ := id G
    have hb3 := hbd σ hI
    refine lv_iload hx hb dL_law_23 (lv_at hl 4 rfl) ?_
    refine lv_aload_n hx hb dL_law_25 rfl (lv_at hl 0 rfl) ?_
    refine va_slen (A := lwA s) hx hb hX hbl (Nat.not_le.mpr hbl) hpt.2.2.1 dL_law_26 ?_
    refine lv_bipush (v := 6) hx hb dL_law_27 (by decide) ?_
    refine lv_isub hx hb dL_law_29 ?_
    refine lv_icmp_gt (tgt := 1253) hx hb dL_law_30 (by decide) (fun _ => ?_) (fun hc => ?_)
    · refine lv_iconst (v := 1) hx hb dL_law_1253 (by decide) ?_
      refine va_forget (fun q hq => hpt.2.2.1.2.2 q hq) ?_
      refine W.widen (k := 601024) (n := 7293034) (by omega) (by omega) ?_
      exact lw_ret hx hb hr hlocks dL_law_1254
    · have hi : i + 6 ≤ L := by
        rcases Nat.lt_or_ge L (i + 6) with q | q
        · exact absurd (lw_gt (L := L) (i := i) (by omega) (by omega) q) hc
        · exact q
      refine lv_aload_n hx hb dL_law_33 rfl (lv_at hl 0 rfl) ?_
      refine lv_iload hx hb dL_law_34 (lv_at hl 4 rfl) ?_
      refine va_sld (A := lwA s) hx hb hX hbl (Nat.not_le.mpr hbl) hpt.2.2.1 (vp_in_nI (show i < L by omega) (by omega)) dL_law_36 ?_
      refine lv_bipush (v := 15) hx hb dL_law_37 (by decide) ?_
      refine lv_iand hx hb dL_law_39 ?_
      obtain ⟨j, hj, ej⟩ := pk_andE (xs (nI i).toNatClampNeg) (m := 15) 4 (by decide)
      rw [ej]
      obtain ⟨hok, hall⟩ := hAll σ hI
      have hall := hall (fun k => xs (i + k))
      have ht : t ≤ 3072 := by omega
      have hgo : ∀ (σ' : XS) (w' : XW) (v' : Nat → Int64) (H' : Heap) (locs' : List Loc) (ls' : Array Slot) (t' : Nat), Inv σ' → w'.1 x = ax → w'.1 mm = am → lwPt D (lwA s) s H' locs' w' σ' qo cL v' → lv_has ls' 7 [(0, .ref b), (1, .ref ax), (2, .ref am), (3, .ref qo), (4, .int (nI i))] → t' ≤ t + 1 → W p l e room_1 s m #[Value.ref b] below meth c H' locs' (σ'.1 + 1 + t') (σ'.2.1 + 1 + 6 * t') (lw_Z below #[Value.ref b] s) (F0 m 1247 ls' []) := by
        intro σ' w' v' H' locs' ls' t' hI' hax' ham' hpt' hl' ht'
        refine lv_iinc (v := nI (i + 6)) (lv' := [(4, .int (nI (i + 6))), (0, .ref b), (1, .ref ax), (2, .ref am), (3, .ref qo)]) hx hb dL_law_1247 hl' (k := 4) rfl (by show nI i + 6 = _; rw [show (6 : Int32) = nI 6 from rfl, nI_add]) (by decide) rfl (fun ls2 hl2 => ?_)
        refine lv_goto (tgt := 23) hx hb dL_law_1250 (by decide) ?_
        exact ih (i + 6) t' σ' w' v' H' locs' ls2 (by omega) (by omega) (by omega) hI' hax' ham' hpt' (lv_sub hl2 [1, 2, 3, 4, 0] rfl)
      refine lv_tableIn (off := (([80, 172, 240, 320, 376, 444, 512, 575, 679, 727, 787, 855, 923, 1003, 1071, 1139] : List Nat).getD j 0 : Nat)) (tgt := 40 + ([80, 172, 240, 320, 376, 444, 512, 575, 679, 727, 787, 855, 923, 1003, 1071, 1139] : List Nat).getD j 0) hx hb dL_law_40 (lw_sw1 hj) (lw_sw2 hj) (lw_sw3 hj) (lw_sw4 hj) ?_
      match j, hj with
      | 0, _ => obtain ⟨hq, -⟩ := hall; exact lc_request hls G hL hi hq hok hbd ht hdd hpt hax ham hl hgo
      | 1, _ => obtain ⟨-, hq, -⟩ := hall; exact lc_bring hls G hL hi hq hok hbd ht hdd hpt hax ham hl hgo
      | 2, _ => obtain ⟨-, -, hq, -⟩ := hall; exact lc_send hls G hL hi hq hok hbd ht hdd hpt hax ham hl hgo
      | 3, _ => obtain ⟨-, -, -, hq, -⟩ := hall; exact lc_late hls G hL hi hq hok hbd ht hdd hpt hax ham hl hgo
      | 4, _ => obtain ⟨-, -, -, -, hq, -⟩ := hall; exact lc_ask hls G hL hi hq hok hbd ht hdd hpt hax ham hl hgo
      | 5, _ => obtain ⟨-, -, -, -, -, hq, -⟩ := hall; exact lc_reply hls G hL hi hq hok hbd ht hdd hpt hax ham hl hgo
      | 6, _ => obtain ⟨-, -, -, -, -, -, hq, -⟩ := hall; exact lc_lie hls G hL hi hq hok hbd ht hdd hpt hax ham hl hgo
      | 7, _ => obtain ⟨-, -, -, -, -, -, -, hq, -⟩ := hall; exact lc_certify hls G hL hi hq hok hbd ht hdd hpt hax ham hl hgo
      | 8, _ => obtain ⟨-, -, -, -, -, -, -, -, hq, -⟩ := hall; exact lc_askFor hls G hL hi hq hok hbd ht hdd hpt hax ham hl hgo
      | 9, _ => obtain ⟨-, -, -, -, -, -, -, -, -, hq, -⟩ := hall; exact lc_replyWith hls G hL hi hq hok hbd ht hdd hpt hax ham hl hgo
      | 10, _ => obtain ⟨-, -, -, -, -, -, -, -, -, -, hq, -⟩ := hall; exact lc_state hls G hL hi hq hok hbd ht hdd hpt hax ham hl hgo
      | 11, _ => obtain ⟨-, -, -, -, -, -, -, -, -, -, -, hq, -⟩ := hall; exact lc_history hls G hL hi hq hok hbd ht hdd hpt hax ham hl hgo
      | 12, _ => obtain ⟨-, -, -, -, -, -, -, -, -, -, -, -, hq, -⟩ := hall; exact lc_message hls G hL hi hq hok hbd ht hdd hpt hax ham hl hgo
      | 13, _ => obtain ⟨-, -, -, -, -, -, -, -, -, -, -, -, -, hq, -⟩ := hall; exact lc_row hls G hL hi hq hok hbd ht hdd hpt hax ham hl hgo
      | 14, _ => obtain ⟨-, -, -, -, -, -, -, -, -, -, -, -, -, -, hq, -⟩ := hall; exact lc_told hls G hL hi hq hok hbd ht hdd hpt hax ham hl hgo
      | 15, _ => obtain ⟨-, -, -, -, -, -, -, -, -, -, -, -, -, -, -, hq⟩ := hall; exact lc_result hls G hL hi hq hok hbd ht hdd hpt hax ham hl hgo
      | k + 16, hk => exact absurd hk (by omega)
