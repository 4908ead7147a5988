/-! the law's sixteen cases -/
theorem lw_num {p : Program} {l : Launch} {e : Env} {R : Room} {s : State} {m : MethodId} {args : Array Value} {below : List Frame} {meth : Method} {c : Code} {H : Heap} {locs : List Loc} {a a' b b' : Nat} {Q : State → Prop} {g : JFrame} (h1 : a = a') (h2 : b = b') (h : W p l e R s m args below meth c H locs a' b' Q g) : W p l e R s m args below meth c H locs a b Q g := by rw [h1, h2]; exact h
set_option maxHeartbeats 2000000 in
set_option maxRecDepth 100000 in
theorem lc_request {p : Program} {l : Launch} {e : Env} {s : State} {m : MethodId} {below : List Frame} {meth : Method} {c : Code} {Q : State → Prop} {D : va_G} {H : Heap} {locs : List Loc} {ls : Array Slot} {w : XW} {σ : XS} {qo ax am : Nat} {cL : ClassId} {v : Nat → Int64} {b L d x mm i t : Nat} {xs : Nat → Int32} {Inv : XS → Prop} (hls : l.stackTraces = false) (G : lwH p s m meth c b L xs) (hL : L ≤ 3072) (hi : i + 6 ≤ L) (hop : lwI d x mm 76 105 [.int (xs (i + 1)), .int (xs (i + 2)), .int (xs (i + 3)), .int (xs (i + 4))] [(0, 1), (1, 2)] Inv σ) (hok : lwOk x mm σ) (hbd : ∀ σ, Inv σ → σ.1 ≤ 2000 ∧ σ.2.1 ≤ 100000) (ht : t ≤ 3072) (hdd : d ≤ 1000) (hpt : lwPt D (lwA s) s H locs w σ qo cL v) (hax : w.1 x = ax) (ham : w.1 mm = am) (hl : lv_has ls 7 [(0, .ref b), (1, .ref ax), (2, .ref am), (3, .ref qo), (4, .int (nI i))])
    (hk : ∀ (σ' : XS) (w' : XW) (v' : Nat → Int64) (H' : Heap) (locs' : List Loc) (ls' : Array Slot) (t' : Nat), Inv σ' → w'.1 x = ax → w'.1 mm = am → lwPt D (lwA s) s H' locs' w' σ' qo cL v' → lv_has ls' 7 [(0, .ref b), (1, .ref ax), (2, .ref am), (3, .ref qo), (4, .int (nI i))] → t' ≤ t + 1 → W p l e room_1 s m #[Value.ref b] below meth c H' locs' (σ'.1 + 1 + t') (σ'.2.1 + 1 + 6 * t') Q (F0 m 1247 ls' [])) :
    W p l e room_1 s m #[Value.ref b] below meth c H locs (σ.1 + 1 + t) (σ.2.1 + 1 + 6 * t) Q (F0 m 120 ls []) := by
  obtain ⟨⟨hx, hb, hr, hml, hown, hts0, hX, hbl, hlocks, hgv⟩, hts, htn, hz, hnc⟩ := id G
  obtain ⟨fs0, hf0⟩ := hok.1.2
  rcases hop with ⟨N1, N2, N3, r, σ1, σ2, h1, o1, h2, o2, h3, hI⟩ | ⟨N1, N2, N3, E, k, b9, σ1, σ2, h1, hek, o1, h2, o2, h3, hI⟩
  · have q1 := xcall_mono _ _ _ _ _ _ h1
    have q2 := xcall_mono _ _ _ _ _ _ h2
    have q3 := hbd σ2 hI
    obtain ⟨fs1, hf1⟩ := o1.2.2
    obtain ⟨fs2, hf2⟩ := o2.2.2
    refine lv_aload_n hx hb dL_law_120 rfl (lv_at hl 1 rfl) ?_
    refine lw_arg (k := 1) G hL hpt hl (List.mem_of_getElem? (i := 0) rfl) (List.mem_of_getElem? (i := 4) rfl) (by decide) (by omega) dL_law_121 dL_law_122 dL_law_124 dL_law_125 dL_law_126 ?_
    refine lw_arg (k := 2) G hL hpt hl (List.mem_of_getElem? (i := 0) rfl) (List.mem_of_getElem? (i := 4) rfl) (by decide) (by omega) dL_law_127 dL_law_128 dL_law_130 dL_law_131 dL_law_132 ?_
    refine lw_arg (k := 3) G hL hpt hl (List.mem_of_getElem? (i := 0) rfl) (List.mem_of_getElem? (i := 4) rfl) (by decide) (by omega) dL_law_133 dL_law_134 dL_law_136 dL_law_137 dL_law_138 ?_
    refine lw_arg (k := 4) G hL hpt hl (List.mem_of_getElem? (i := 0) rfl) (List.mem_of_getElem? (i := 4) rfl) (by decide) (by omega) dL_law_139 dL_law_140 dL_law_142 dL_law_143 dL_law_144 ?_
    refine lv_aload_n hx hb dL_law_145 rfl (lv_at hl 3 rfl) ?_
    refine lw_callW (n := 6) (As := [.ref ax, .int (xs (i + 1)), .int (xs (i + 2)), .int (xs (i + 3)), .int (xs (i + 4)), .ref qo]) (rest := []) (wn_request (v := v) h1 hok.1.1 hf0) rfl G hpt (by rw [hax]) (xt2 10 rfl rfl) (xt2 8 rfl rfl) (xt2 9 rfl rfl) (xt1 0 rfl rfl) (by decide +kernel) rfl (by decide) hl.1 (Nat.le_of_ble_eq_true rfl) dL_law_146 hdd (by show _ ≤ 601024; omega) (by show _ ≤ 7293034; omega) (fun H1 locs1 w1 hag hpt => ?_)
    have hax1 : w1.1 x = ax := (hag x hok.1.1).1.trans hax
    have ham1 : w1.1 mm = am := (hag mm hok.2.1).1.trans ham
    refine lv_istore (lv' := (5, .int 0) :: [(0, .ref b), (1, .ref ax), (2, .ref am), (3, .ref qo), (4, .int (nI i))]) hx hb dL_law_149 hl (by decide) rfl (fun ls1 hl => ?_)
    refine lv_aload_n hx hb dL_law_151 rfl (lv_at hl 3 rfl) ?_
    refine lw_arg (k := 1) G hL hpt hl (List.mem_of_getElem? (i := 1) rfl) (List.mem_of_getElem? (i := 5) rfl) (by decide) (by omega) dL_law_152 dL_law_153 dL_law_155 dL_law_156 dL_law_157 ?_
    refine lw_arg (k := 2) G hL hpt hl (List.mem_of_getElem? (i := 1) rfl) (List.mem_of_getElem? (i := 5) rfl) (by decide) (by omega) dL_law_158 dL_law_159 dL_law_161 dL_law_162 dL_law_163 ?_
    refine lw_arg (k := 3) G hL hpt hl (List.mem_of_getElem? (i := 1) rfl) (List.mem_of_getElem? (i := 5) rfl) (by decide) (by omega) dL_law_164 dL_law_165 dL_law_167 dL_law_168 dL_law_169 ?_
    refine lw_arg (k := 4) G hL hpt hl (List.mem_of_getElem? (i := 1) rfl) (List.mem_of_getElem? (i := 5) rfl) (by decide) (by omega) dL_law_170 dL_law_171 dL_law_173 dL_law_174 dL_law_175 ?_
    refine lw_callM (is := [.int (xs (i + 1)), .int (xs (i + 2)), .int (xs (i + 3)), .int (xs (i + 4))]) (rest := []) h2 G hpt ham1 o1.2.1 hf1 rfl (by decide) (xok_ints [(xs (i + 1)), (xs (i + 2)), (xs (i + 3)), (xs (i + 4))]) rfl (xt4 220 rfl rfl) (xt4 221 rfl rfl) (xt4 222 rfl rfl) hl.1 (Nat.le_of_ble_eq_true rfl) dL_law_176 hdd (by show _ ≤ 601024; omega) (by show _ ≤ 7293034; omega) (fun H2 locs2 w2 hag2 hpt => ?_)
    have hax2 : w2.1 x = ax := (hag2 x o1.1.1).1.trans hax1
    have ham2 : w2.1 mm = am := (hag2 mm o1.2.1).1.trans ham1
    refine lv_istore (lv' := (6, .int r) :: (5, .int 0) :: [(0, .ref b), (1, .ref ax), (2, .ref am), (3, .ref qo), (4, .int (nI i))]) hx hb dL_law_179 hl (by decide) rfl (fun ls2 hl => ?_)
    refine lv_aload_n hx hb dL_law_181 rfl (lv_at hl 4 rfl) ?_
    refine lw_callM (is := []) (rest := []) h3 G hpt ham2 o2.2.1 hf2 rfl (by decide) (xok_ints []) rfl (xt4 216 rfl rfl) (xt4 217 rfl rfl) (xt4 218 rfl rfl) hl.1 (Nat.le_of_ble_eq_true rfl) dL_law_182 hdd (by show _ ≤ 601024; omega) (by show _ ≤ 7293034; omega) (fun H3 locs3 w3 hag3 hpt => ?_)
    have hax3 : w3.1 x = ax := (hag3 x o2.1.1).1.trans hax2
    have ham3 : w3.1 mm = am := (hag3 mm o2.2.1).1.trans ham2
    refine lv_iload hx hb dL_law_185 (lv_at hl 1 rfl) ?_
    refine lv_icmp_eq (tgt := 192) hx hb dL_law_187 (by decide) (fun _ => ?_) (fun hne => absurd rfl hne)
    refine lv_iload hx hb dL_law_192 (lv_at hl 1 rfl) ?_
    refine lv_if_ne (tgt := 209) hx hb dL_law_194 (by decide) (fun hne => absurd rfl hne) (fun _ => ?_)
    refine lv_aload_n hx hb dL_law_197 rfl (lv_at hl 5 rfl) ?_
    refine lv_iconst (v := 0) hx hb dL_law_198 (by decide) ?_
    refine lw_laload G hpt dL_law_199 ?_
    rw [pk_uLs]
    refine lv_iload hx hb dL_law_200 (lv_at hl 0 rfl) ?_
    refine lv_i2l hx hb dL_law_202 rfl ?_
    refine W.lcmp hx hb dL_law_203 ?_
    rw [lg_cmp_self]
    refine lv_if_eq (tgt := 209) hx hb dL_law_204 (by decide) (fun _ => ?_) (fun hne => absurd rfl hne)
    refine lv_goto (tgt := 1247) hx hb dL_law_209 (by decide) ?_
    exact lw_num (by omega) (by omega) (hk σ2 w3 _ H3 locs3 _ t hI hax3 ham3 hpt (lv_sub hl [2, 3, 4, 5, 6] rfl) (by omega))
  · have q1 := xcallX_mono _ _ _ _ _ _ h1
    have q2 := xcall_mono _ _ _ _ _ _ h2
    have q3 := hbd σ2 hI
    obtain ⟨fs1, hf1⟩ := o1.2.2
    obtain ⟨fs2, hf2⟩ := o2.2.2
    rcases List.mem_cons.mp hek with hek | hek
    · cases hek
      refine lv_aload_n hx hb dL_law_120 rfl (lv_at hl 1 rfl) ?_
      refine lw_arg (k := 1) G hL hpt hl (List.mem_of_getElem? (i := 0) rfl) (List.mem_of_getElem? (i := 4) rfl) (by decide) (by omega) dL_law_121 dL_law_122 dL_law_124 dL_law_125 dL_law_126 ?_
      refine lw_arg (k := 2) G hL hpt hl (List.mem_of_getElem? (i := 0) rfl) (List.mem_of_getElem? (i := 4) rfl) (by decide) (by omega) dL_law_127 dL_law_128 dL_law_130 dL_law_131 dL_law_132 ?_
      refine lw_arg (k := 3) G hL hpt hl (List.mem_of_getElem? (i := 0) rfl) (List.mem_of_getElem? (i := 4) rfl) (by decide) (by omega) dL_law_133 dL_law_134 dL_law_136 dL_law_137 dL_law_138 ?_
      refine lw_arg (k := 4) G hL hpt hl (List.mem_of_getElem? (i := 0) rfl) (List.mem_of_getElem? (i := 4) rfl) (by decide) (by omega) dL_law_139 dL_law_140 dL_law_142 dL_law_143 dL_law_144 ?_
      refine lv_aload_n hx hb dL_law_145 rfl (lv_at hl 3 rfl) ?_
      refine lw_callW (n := 6) (As := [.ref ax, .int (xs (i + 1)), .int (xs (i + 2)), .int (xs (i + 3)), .int (xs (i + 4)), .ref qo]) (rest := []) (wx_request_0 (v := v) hls h1 hok.1.1 hf0) rfl G hpt (by rw [hax]) (xt2 10 rfl rfl) (xt2 8 rfl rfl) (xt2 9 rfl rfl) (xt1 0 rfl rfl) (by decide +kernel) rfl (by decide) hl.1 (Nat.le_of_ble_eq_true rfl) dL_law_146 hdd (by show _ ≤ 601024; omega) (by show _ ≤ 7293034; omega) (fun H1 locs1 w1 hag hpt => ?_)
      have hax1 : w1.1 x = ax := (hag x hok.1.1).1.trans hax
      have ham1 : w1.1 mm = am := (hag mm hok.2.1).1.trans ham
      refine lv_istore (lv' := (5, .int 1) :: [(0, .ref b), (1, .ref ax), (2, .ref am), (3, .ref qo), (4, .int (nI i))]) hx hb dL_law_149 hl (by decide) rfl (fun ls1 hl => ?_)
      refine lv_aload_n hx hb dL_law_151 rfl (lv_at hl 3 rfl) ?_
      refine lw_arg (k := 1) G hL hpt hl (List.mem_of_getElem? (i := 1) rfl) (List.mem_of_getElem? (i := 5) rfl) (by decide) (by omega) dL_law_152 dL_law_153 dL_law_155 dL_law_156 dL_law_157 ?_
      refine lw_arg (k := 2) G hL hpt hl (List.mem_of_getElem? (i := 1) rfl) (List.mem_of_getElem? (i := 5) rfl) (by decide) (by omega) dL_law_158 dL_law_159 dL_law_161 dL_law_162 dL_law_163 ?_
      refine lw_arg (k := 3) G hL hpt hl (List.mem_of_getElem? (i := 1) rfl) (List.mem_of_getElem? (i := 5) rfl) (by decide) (by omega) dL_law_164 dL_law_165 dL_law_167 dL_law_168 dL_law_169 ?_
      refine lw_arg (k := 4) G hL hpt hl (List.mem_of_getElem? (i := 1) rfl) (List.mem_of_getElem? (i := 5) rfl) (by decide) (by omega) dL_law_170 dL_law_171 dL_law_173 dL_law_174 dL_law_175 ?_
      refine lw_callM (is := [.int (xs (i + 1)), .int (xs (i + 2)), .int (xs (i + 3)), .int (xs (i + 4))]) (rest := []) h2 G hpt ham1 o1.2.1 hf1 rfl (by decide) (xok_ints [(xs (i + 1)), (xs (i + 2)), (xs (i + 3)), (xs (i + 4))]) rfl (xt4 220 rfl rfl) (xt4 221 rfl rfl) (xt4 222 rfl rfl) hl.1 (Nat.le_of_ble_eq_true rfl) dL_law_176 hdd (by show _ ≤ 601024; omega) (by show _ ≤ 7293034; omega) (fun H2 locs2 w2 hag2 hpt => ?_)
      have hax2 : w2.1 x = ax := (hag2 x o1.1.1).1.trans hax1
      have ham2 : w2.1 mm = am := (hag2 mm o1.2.1).1.trans ham1
      refine lv_istore (lv' := (6, .int b9) :: (5, .int 1) :: [(0, .ref b), (1, .ref ax), (2, .ref am), (3, .ref qo), (4, .int (nI i))]) hx hb dL_law_179 hl (by decide) rfl (fun ls2 hl => ?_)
      refine lv_aload_n hx hb dL_law_181 rfl (lv_at hl 4 rfl) ?_
      refine lw_callM (is := []) (rest := []) h3 G hpt ham2 o2.2.1 hf2 rfl (by decide) (xok_ints []) rfl (xt4 216 rfl rfl) (xt4 217 rfl rfl) (xt4 218 rfl rfl) hl.1 (Nat.le_of_ble_eq_true rfl) dL_law_182 hdd (by show _ ≤ 601024; omega) (by show _ ≤ 7293034; omega) (fun H3 locs3 w3 hag3 hpt => ?_)
      have hax3 : w3.1 x = ax := (hag3 x o2.1.1).1.trans hax2
      have ham3 : w3.1 mm = am := (hag3 mm o2.2.1).1.trans ham2
      refine lv_iload hx hb dL_law_185 (lv_at hl 1 rfl) ?_
      refine lv_icmp_eq (tgt := 192) hx hb dL_law_187 (by decide) (fun _ => ?_) (fun hne => absurd rfl hne)
      refine lv_iload hx hb dL_law_192 (lv_at hl 1 rfl) ?_
      refine lv_if_ne (tgt := 209) hx hb dL_law_194 (by decide) (fun _ => ?_) (fun hz0 => absurd hz0 (by decide))
      refine lv_goto (tgt := 1247) hx hb dL_law_209 (by decide) ?_
      exact lw_num (by omega) (by omega) (hk σ2 w3 _ H3 locs3 _ (t + 1) hI hax3 ham3 hpt (lv_sub hl [2, 3, 4, 5, 6] rfl) (by omega))
    rcases List.mem_cons.mp hek with hek | hek
    · cases hek
      refine lv_aload_n hx hb dL_law_120 rfl (lv_at hl 1 rfl) ?_
      refine lw_arg (k := 1) G hL hpt hl (List.mem_of_getElem? (i := 0) rfl) (List.mem_of_getElem? (i := 4) rfl) (by decide) (by omega) dL_law_121 dL_law_122 dL_law_124 dL_law_125 dL_law_126 ?_
      refine lw_arg (k := 2) G hL hpt hl (List.mem_of_getElem? (i := 0) rfl) (List.mem_of_getElem? (i := 4) rfl) (by decide) (by omega) dL_law_127 dL_law_128 dL_law_130 dL_law_131 dL_law_132 ?_
      refine lw_arg (k := 3) G hL hpt hl (List.mem_of_getElem? (i := 0) rfl) (List.mem_of_getElem? (i := 4) rfl) (by decide) (by omega) dL_law_133 dL_law_134 dL_law_136 dL_law_137 dL_law_138 ?_
      refine lw_arg (k := 4) G hL hpt hl (List.mem_of_getElem? (i := 0) rfl) (List.mem_of_getElem? (i := 4) rfl) (by decide) (by omega) dL_law_139 dL_law_140 dL_law_142 dL_law_143 dL_law_144 ?_
      refine lv_aload_n hx hb dL_law_145 rfl (lv_at hl 3 rfl) ?_
      refine lw_callW (n := 6) (As := [.ref ax, .int (xs (i + 1)), .int (xs (i + 2)), .int (xs (i + 3)), .int (xs (i + 4)), .ref qo]) (rest := []) (wx_request_1 (v := v) hls h1 hok.1.1 hf0) rfl G hpt (by rw [hax]) (xt2 10 rfl rfl) (xt2 8 rfl rfl) (xt2 9 rfl rfl) (xt1 0 rfl rfl) (by decide +kernel) rfl (by decide) hl.1 (Nat.le_of_ble_eq_true rfl) dL_law_146 hdd (by show _ ≤ 601024; omega) (by show _ ≤ 7293034; omega) (fun H1 locs1 w1 hag hpt => ?_)
      have hax1 : w1.1 x = ax := (hag x hok.1.1).1.trans hax
      have ham1 : w1.1 mm = am := (hag mm hok.2.1).1.trans ham
      refine lv_istore (lv' := (5, .int 2) :: [(0, .ref b), (1, .ref ax), (2, .ref am), (3, .ref qo), (4, .int (nI i))]) hx hb dL_law_149 hl (by decide) rfl (fun ls1 hl => ?_)
      refine lv_aload_n hx hb dL_law_151 rfl (lv_at hl 3 rfl) ?_
      refine lw_arg (k := 1) G hL hpt hl (List.mem_of_getElem? (i := 1) rfl) (List.mem_of_getElem? (i := 5) rfl) (by decide) (by omega) dL_law_152 dL_law_153 dL_law_155 dL_law_156 dL_law_157 ?_
      refine lw_arg (k := 2) G hL hpt hl (List.mem_of_getElem? (i := 1) rfl) (List.mem_of_getElem? (i := 5) rfl) (by decide) (by omega) dL_law_158 dL_law_159 dL_law_161 dL_law_162 dL_law_163 ?_
      refine lw_arg (k := 3) G hL hpt hl (List.mem_of_getElem? (i := 1) rfl) (List.mem_of_getElem? (i := 5) rfl) (by decide) (by omega) dL_law_164 dL_law_165 dL_law_167 dL_law_168 dL_law_169 ?_
      refine lw_arg (k := 4) G hL hpt hl (List.mem_of_getElem? (i := 1) rfl) (List.mem_of_getElem? (i := 5) rfl) (by decide) (by omega) dL_law_170 dL_law_171 dL_law_173 dL_law_174 dL_law_175 ?_
      refine lw_callM (is := [.int (xs (i + 1)), .int (xs (i + 2)), .int (xs (i + 3)), .int (xs (i + 4))]) (rest := []) h2 G hpt ham1 o1.2.1 hf1 rfl (by decide) (xok_ints [(xs (i + 1)), (xs (i + 2)), (xs (i + 3)), (xs (i + 4))]) rfl (xt4 220 rfl rfl) (xt4 221 rfl rfl) (xt4 222 rfl rfl) hl.1 (Nat.le_of_ble_eq_true rfl) dL_law_176 hdd (by show _ ≤ 601024; omega) (by show _ ≤ 7293034; omega) (fun H2 locs2 w2 hag2 hpt => ?_)
      have hax2 : w2.1 x = ax := (hag2 x o1.1.1).1.trans hax1
      have ham2 : w2.1 mm = am := (hag2 mm o1.2.1).1.trans ham1
      refine lv_istore (lv' := (6, .int b9) :: (5, .int 2) :: [(0, .ref b), (1, .ref ax), (2, .ref am), (3, .ref qo), (4, .int (nI i))]) hx hb dL_law_179 hl (by decide) rfl (fun ls2 hl => ?_)
      refine lv_aload_n hx hb dL_law_181 rfl (lv_at hl 4 rfl) ?_
      refine lw_callM (is := []) (rest := []) h3 G hpt ham2 o2.2.1 hf2 rfl (by decide) (xok_ints []) rfl (xt4 216 rfl rfl) (xt4 217 rfl rfl) (xt4 218 rfl rfl) hl.1 (Nat.le_of_ble_eq_true rfl) dL_law_182 hdd (by show _ ≤ 601024; omega) (by show _ ≤ 7293034; omega) (fun H3 locs3 w3 hag3 hpt => ?_)
      have hax3 : w3.1 x = ax := (hag3 x o2.1.1).1.trans hax2
      have ham3 : w3.1 mm = am := (hag3 mm o2.2.1).1.trans ham2
      refine lv_iload hx hb dL_law_185 (lv_at hl 1 rfl) ?_
      refine lv_icmp_eq (tgt := 192) hx hb dL_law_187 (by decide) (fun _ => ?_) (fun hne => absurd rfl hne)
      refine lv_iload hx hb dL_law_192 (lv_at hl 1 rfl) ?_
      refine lv_if_ne (tgt := 209) hx hb dL_law_194 (by decide) (fun _ => ?_) (fun hz0 => absurd hz0 (by decide))
      refine lv_goto (tgt := 1247) hx hb dL_law_209 (by decide) ?_
      exact lw_num (by omega) (by omega) (hk σ2 w3 _ H3 locs3 _ (t + 1) hI hax3 ham3 hpt (lv_sub hl [2, 3, 4, 5, 6] rfl) (by omega))
    cases hek
set_option maxHeartbeats 2000000 in
set_option maxRecDepth 100000 in
theorem lc_bring {p : Program} {l : Launch} {e : Env} {s : State} {m : MethodId} {below : List Frame} {meth : Method} {c : Code} {Q : State → Prop} {D : va_G} {H : Heap} {locs : List Loc} {ls : Array Slot} {w : XW} {σ : XS} {qo ax am : Nat} {cL : ClassId} {v : Nat → Int64} {b L d x mm i t : Nat} {xs : Nat → Int32} {Inv : XS → Prop} (hls : l.stackTraces = false) (G : lwH p s m meth c b L xs) (hL : L ≤ 3072) (hi : i + 6 ≤ L) (hop : lwI d x mm 77 133 [.int (xs (i + 1)), .int (xs (i + 2))] [(2, 1)] Inv σ) (hok : lwOk x mm σ) (hbd : ∀ σ, Inv σ → σ.1 ≤ 2000 ∧ σ.2.1 ≤ 100000) (ht : t ≤ 3072) (hdd : d ≤ 1000) (hpt : lwPt D (lwA s) s H locs w σ qo cL v) (hax : w.1 x = ax) (ham : w.1 mm = am) (hl : lv_has ls 7 [(0, .ref b), (1, .ref ax), (2, .ref am), (3, .ref qo), (4, .int (nI i))])
    (hk : ∀ (σ' : XS) (w' : XW) (v' : Nat → Int64) (H' : Heap) (locs' : List Loc) (ls' : Array Slot) (t' : Nat), Inv σ' → w'.1 x = ax → w'.1 mm = am → lwPt D (lwA s) s H' locs' w' σ' qo cL v' → lv_has ls' 7 [(0, .ref b), (1, .ref ax), (2, .ref am), (3, .ref qo), (4, .int (nI i))] → t' ≤ t + 1 → W p l e room_1 s m #[Value.ref b] below meth c H' locs' (σ'.1 + 1 + t') (σ'.2.1 + 1 + 6 * t') Q (F0 m 1247 ls' [])) :
    W p l e room_1 s m #[Value.ref b] below meth c H locs (σ.1 + 1 + t) (σ.2.1 + 1 + 6 * t) Q (F0 m 212 ls []) := by
  obtain ⟨⟨hx, hb, hr, hml, hown, hts0, hX, hbl, hlocks, hgv⟩, hts, htn, hz, hnc⟩ := id G
  obtain ⟨fs0, hf0⟩ := hok.1.2
  rcases hop with ⟨N1, N2, N3, r, σ1, σ2, h1, o1, h2, o2, h3, hI⟩ | ⟨N1, N2, N3, E, k, b9, σ1, σ2, h1, hek, o1, h2, o2, h3, hI⟩
  · have q1 := xcall_mono _ _ _ _ _ _ h1
    have q2 := xcall_mono _ _ _ _ _ _ h2
    have q3 := hbd σ2 hI
    obtain ⟨fs1, hf1⟩ := o1.2.2
    obtain ⟨fs2, hf2⟩ := o2.2.2
    refine lv_aload_n hx hb dL_law_212 rfl (lv_at hl 1 rfl) ?_
    refine lw_arg (k := 1) G hL hpt hl (List.mem_of_getElem? (i := 0) rfl) (List.mem_of_getElem? (i := 4) rfl) (by decide) (by omega) dL_law_213 dL_law_214 dL_law_216 dL_law_217 dL_law_218 ?_
    refine lw_arg (k := 2) G hL hpt hl (List.mem_of_getElem? (i := 0) rfl) (List.mem_of_getElem? (i := 4) rfl) (by decide) (by omega) dL_law_219 dL_law_220 dL_law_222 dL_law_223 dL_law_224 ?_
    refine lv_aload_n hx hb dL_law_225 rfl (lv_at hl 3 rfl) ?_
    refine lw_callW (n := 4) (As := [.ref ax, .int (xs (i + 1)), .int (xs (i + 2)), .ref qo]) (rest := []) (wn_bring (v := v) h1 hok.1.1 hf0) rfl G hpt (by rw [hax]) (xt2 114 rfl rfl) (xt2 112 rfl rfl) (xt2 113 rfl rfl) (xt1 0 rfl rfl) (by decide +kernel) rfl (by decide) hl.1 (Nat.le_of_ble_eq_true rfl) dL_law_226 hdd (by show _ ≤ 601024; omega) (by show _ ≤ 7293034; omega) (fun H1 locs1 w1 hag hpt => ?_)
    have hax1 : w1.1 x = ax := (hag x hok.1.1).1.trans hax
    have ham1 : w1.1 mm = am := (hag mm hok.2.1).1.trans ham
    refine lv_istore (lv' := (5, .int 0) :: [(0, .ref b), (1, .ref ax), (2, .ref am), (3, .ref qo), (4, .int (nI i))]) hx hb dL_law_229 hl (by decide) rfl (fun ls1 hl => ?_)
    refine lv_aload_n hx hb dL_law_231 rfl (lv_at hl 3 rfl) ?_
    refine lw_arg (k := 1) G hL hpt hl (List.mem_of_getElem? (i := 1) rfl) (List.mem_of_getElem? (i := 5) rfl) (by decide) (by omega) dL_law_232 dL_law_233 dL_law_235 dL_law_236 dL_law_237 ?_
    refine lw_arg (k := 2) G hL hpt hl (List.mem_of_getElem? (i := 1) rfl) (List.mem_of_getElem? (i := 5) rfl) (by decide) (by omega) dL_law_238 dL_law_239 dL_law_241 dL_law_242 dL_law_243 ?_
    refine lw_callM (is := [.int (xs (i + 1)), .int (xs (i + 2))]) (rest := []) h2 G hpt ham1 o1.2.1 hf1 rfl (by decide) (xok_ints [(xs (i + 1)), (xs (i + 2))]) rfl (xt4 224 rfl rfl) (xt4 225 rfl rfl) (xt4 226 rfl rfl) hl.1 (Nat.le_of_ble_eq_true rfl) dL_law_244 hdd (by show _ ≤ 601024; omega) (by show _ ≤ 7293034; omega) (fun H2 locs2 w2 hag2 hpt => ?_)
    have hax2 : w2.1 x = ax := (hag2 x o1.1.1).1.trans hax1
    have ham2 : w2.1 mm = am := (hag2 mm o1.2.1).1.trans ham1
    refine lv_istore (lv' := (6, .int r) :: (5, .int 0) :: [(0, .ref b), (1, .ref ax), (2, .ref am), (3, .ref qo), (4, .int (nI i))]) hx hb dL_law_247 hl (by decide) rfl (fun ls2 hl => ?_)
    refine lv_aload_n hx hb dL_law_249 rfl (lv_at hl 4 rfl) ?_
    refine lw_callM (is := []) (rest := []) h3 G hpt ham2 o2.2.1 hf2 rfl (by decide) (xok_ints []) rfl (xt4 216 rfl rfl) (xt4 217 rfl rfl) (xt4 218 rfl rfl) hl.1 (Nat.le_of_ble_eq_true rfl) dL_law_250 hdd (by show _ ≤ 601024; omega) (by show _ ≤ 7293034; omega) (fun H3 locs3 w3 hag3 hpt => ?_)
    have hax3 : w3.1 x = ax := (hag3 x o2.1.1).1.trans hax2
    have ham3 : w3.1 mm = am := (hag3 mm o2.2.1).1.trans ham2
    refine lv_iload hx hb dL_law_253 (lv_at hl 1 rfl) ?_
    refine lv_icmp_eq (tgt := 260) hx hb dL_law_255 (by decide) (fun _ => ?_) (fun hne => absurd rfl hne)
    refine lv_iload hx hb dL_law_260 (lv_at hl 1 rfl) ?_
    refine lv_if_ne (tgt := 277) hx hb dL_law_262 (by decide) (fun hne => absurd rfl hne) (fun _ => ?_)
    refine lv_aload_n hx hb dL_law_265 rfl (lv_at hl 5 rfl) ?_
    refine lv_iconst (v := 0) hx hb dL_law_266 (by decide) ?_
    refine lw_laload G hpt dL_law_267 ?_
    rw [pk_uLs]
    refine lv_iload hx hb dL_law_268 (lv_at hl 0 rfl) ?_
    refine lv_i2l hx hb dL_law_270 rfl ?_
    refine W.lcmp hx hb dL_law_271 ?_
    rw [lg_cmp_self]
    refine lv_if_eq (tgt := 277) hx hb dL_law_272 (by decide) (fun _ => ?_) (fun hne => absurd rfl hne)
    refine lv_goto (tgt := 1247) hx hb dL_law_277 (by decide) ?_
    exact lw_num (by omega) (by omega) (hk σ2 w3 _ H3 locs3 _ t hI hax3 ham3 hpt (lv_sub hl [2, 3, 4, 5, 6] rfl) (by omega))
  · have q1 := xcallX_mono _ _ _ _ _ _ h1
    have q2 := xcall_mono _ _ _ _ _ _ h2
    have q3 := hbd σ2 hI
    obtain ⟨fs1, hf1⟩ := o1.2.2
    obtain ⟨fs2, hf2⟩ := o2.2.2
    rcases List.mem_cons.mp hek with hek | hek
    · cases hek
      refine lv_aload_n hx hb dL_law_212 rfl (lv_at hl 1 rfl) ?_
      refine lw_arg (k := 1) G hL hpt hl (List.mem_of_getElem? (i := 0) rfl) (List.mem_of_getElem? (i := 4) rfl) (by decide) (by omega) dL_law_213 dL_law_214 dL_law_216 dL_law_217 dL_law_218 ?_
      refine lw_arg (k := 2) G hL hpt hl (List.mem_of_getElem? (i := 0) rfl) (List.mem_of_getElem? (i := 4) rfl) (by decide) (by omega) dL_law_219 dL_law_220 dL_law_222 dL_law_223 dL_law_224 ?_
      refine lv_aload_n hx hb dL_law_225 rfl (lv_at hl 3 rfl) ?_
      refine lw_callW (n := 4) (As := [.ref ax, .int (xs (i + 1)), .int (xs (i + 2)), .ref qo]) (rest := []) (wx_bring_2 (v := v) hls h1 hok.1.1 hf0) rfl G hpt (by rw [hax]) (xt2 114 rfl rfl) (xt2 112 rfl rfl) (xt2 113 rfl rfl) (xt1 0 rfl rfl) (by decide +kernel) rfl (by decide) hl.1 (Nat.le_of_ble_eq_true rfl) dL_law_226 hdd (by show _ ≤ 601024; omega) (by show _ ≤ 7293034; omega) (fun H1 locs1 w1 hag hpt => ?_)
      have hax1 : w1.1 x = ax := (hag x hok.1.1).1.trans hax
      have ham1 : w1.1 mm = am := (hag mm hok.2.1).1.trans ham
      refine lv_istore (lv' := (5, .int 1) :: [(0, .ref b), (1, .ref ax), (2, .ref am), (3, .ref qo), (4, .int (nI i))]) hx hb dL_law_229 hl (by decide) rfl (fun ls1 hl => ?_)
      refine lv_aload_n hx hb dL_law_231 rfl (lv_at hl 3 rfl) ?_
      refine lw_arg (k := 1) G hL hpt hl (List.mem_of_getElem? (i := 1) rfl) (List.mem_of_getElem? (i := 5) rfl) (by decide) (by omega) dL_law_232 dL_law_233 dL_law_235 dL_law_236 dL_law_237 ?_
      refine lw_arg (k := 2) G hL hpt hl (List.mem_of_getElem? (i := 1) rfl) (List.mem_of_getElem? (i := 5) rfl) (by decide) (by omega) dL_law_238 dL_law_239 dL_law_241 dL_law_242 dL_law_243 ?_
      refine lw_callM (is := [.int (xs (i + 1)), .int (xs (i + 2))]) (rest := []) h2 G hpt ham1 o1.2.1 hf1 rfl (by decide) (xok_ints [(xs (i + 1)), (xs (i + 2))]) rfl (xt4 224 rfl rfl) (xt4 225 rfl rfl) (xt4 226 rfl rfl) hl.1 (Nat.le_of_ble_eq_true rfl) dL_law_244 hdd (by show _ ≤ 601024; omega) (by show _ ≤ 7293034; omega) (fun H2 locs2 w2 hag2 hpt => ?_)
      have hax2 : w2.1 x = ax := (hag2 x o1.1.1).1.trans hax1
      have ham2 : w2.1 mm = am := (hag2 mm o1.2.1).1.trans ham1
      refine lv_istore (lv' := (6, .int b9) :: (5, .int 1) :: [(0, .ref b), (1, .ref ax), (2, .ref am), (3, .ref qo), (4, .int (nI i))]) hx hb dL_law_247 hl (by decide) rfl (fun ls2 hl => ?_)
      refine lv_aload_n hx hb dL_law_249 rfl (lv_at hl 4 rfl) ?_
      refine lw_callM (is := []) (rest := []) h3 G hpt ham2 o2.2.1 hf2 rfl (by decide) (xok_ints []) rfl (xt4 216 rfl rfl) (xt4 217 rfl rfl) (xt4 218 rfl rfl) hl.1 (Nat.le_of_ble_eq_true rfl) dL_law_250 hdd (by show _ ≤ 601024; omega) (by show _ ≤ 7293034; omega) (fun H3 locs3 w3 hag3 hpt => ?_)
      have hax3 : w3.1 x = ax := (hag3 x o2.1.1).1.trans hax2
      have ham3 : w3.1 mm = am := (hag3 mm o2.2.1).1.trans ham2
      refine lv_iload hx hb dL_law_253 (lv_at hl 1 rfl) ?_
      refine lv_icmp_eq (tgt := 260) hx hb dL_law_255 (by decide) (fun _ => ?_) (fun hne => absurd rfl hne)
      refine lv_iload hx hb dL_law_260 (lv_at hl 1 rfl) ?_
      refine lv_if_ne (tgt := 277) hx hb dL_law_262 (by decide) (fun _ => ?_) (fun hz0 => absurd hz0 (by decide))
      refine lv_goto (tgt := 1247) hx hb dL_law_277 (by decide) ?_
      exact lw_num (by omega) (by omega) (hk σ2 w3 _ H3 locs3 _ (t + 1) hI hax3 ham3 hpt (lv_sub hl [2, 3, 4, 5, 6] rfl) (by omega))
    cases hek
set_option maxHeartbeats 2000000 in
set_option maxRecDepth 100000 in
theorem lc_send {p : Program} {l : Launch} {e : Env} {s : State} {m : MethodId} {below : List Frame} {meth : Method} {c : Code} {Q : State → Prop} {D : va_G} {H : Heap} {locs : List Loc} {ls : Array Slot} {w : XW} {σ : XS} {qo ax am : Nat} {cL : ClassId} {v : Nat → Int64} {b L d x mm i t : Nat} {xs : Nat → Int32} {Inv : XS → Prop} (hls : l.stackTraces = false) (G : lwH p s m meth c b L xs) (hL : L ≤ 3072) (hi : i + 6 ≤ L) (hop : lwI d x mm 78 134 [.int (xs (i + 1)), .int (xs (i + 2)), .int (xs (i + 3))] [(2, 1), (0, 2)] Inv σ) (hok : lwOk x mm σ) (hbd : ∀ σ, Inv σ → σ.1 ≤ 2000 ∧ σ.2.1 ≤ 100000) (ht : t ≤ 3072) (hdd : d ≤ 1000) (hpt : lwPt D (lwA s) s H locs w σ qo cL v) (hax : w.1 x = ax) (ham : w.1 mm = am) (hl : lv_has ls 7 [(0, .ref b), (1, .ref ax), (2, .ref am), (3, .ref qo), (4, .int (nI i))])
    (hk : ∀ (σ' : XS) (w' : XW) (v' : Nat → Int64) (H' : Heap) (locs' : List Loc) (ls' : Array Slot) (t' : Nat), Inv σ' → w'.1 x = ax → w'.1 mm = am → lwPt D (lwA s) s H' locs' w' σ' qo cL v' → lv_has ls' 7 [(0, .ref b), (1, .ref ax), (2, .ref am), (3, .ref qo), (4, .int (nI i))] → t' ≤ t + 1 → W p l e room_1 s m #[Value.ref b] below meth c H' locs' (σ'.1 + 1 + t') (σ'.2.1 + 1 + 6 * t') Q (F0 m 1247 ls' [])) :
    W p l e room_1 s m #[Value.ref b] below meth c H locs (σ.1 + 1 + t) (σ.2.1 + 1 + 6 * t) Q (F0 m 280 ls []) := by
  obtain ⟨⟨hx, hb, hr, hml, hown, hts0, hX, hbl, hlocks, hgv⟩, hts, htn, hz, hnc⟩ := id G
  obtain ⟨fs0, hf0⟩ := hok.1.2
  rcases hop with ⟨N1, N2, N3, r, σ1, σ2, h1, o1, h2, o2, h3, hI⟩ | ⟨N1, N2, N3, E, k, b9, σ1, σ2, h1, hek, o1, h2, o2, h3, hI⟩
  · have q1 := xcall_mono _ _ _ _ _ _ h1
    have q2 := xcall_mono _ _ _ _ _ _ h2
    have q3 := hbd σ2 hI
    obtain ⟨fs1, hf1⟩ := o1.2.2
    obtain ⟨fs2, hf2⟩ := o2.2.2
    refine lv_aload_n hx hb dL_law_280 rfl (lv_at hl 1 rfl) ?_
    refine lw_arg (k := 1) G hL hpt hl (List.mem_of_getElem? (i := 0) rfl) (List.mem_of_getElem? (i := 4) rfl) (by decide) (by omega) dL_law_281 dL_law_282 dL_law_284 dL_law_285 dL_law_286 ?_
    refine lw_arg (k := 2) G hL hpt hl (List.mem_of_getElem? (i := 0) rfl) (List.mem_of_getElem? (i := 4) rfl) (by decide) (by omega) dL_law_287 dL_law_288 dL_law_290 dL_law_291 dL_law_292 ?_
    refine lw_arg (k := 3) G hL hpt hl (List.mem_of_getElem? (i := 0) rfl) (List.mem_of_getElem? (i := 4) rfl) (by decide) (by omega) dL_law_293 dL_law_294 dL_law_296 dL_law_297 dL_law_298 ?_
    refine lv_aload_n hx hb dL_law_299 rfl (lv_at hl 3 rfl) ?_
    refine lw_callW (n := 5) (As := [.ref ax, .int (xs (i + 1)), .int (xs (i + 2)), .int (xs (i + 3)), .ref qo]) (rest := []) (wn_send (v := v) h1 hok.1.1 hf0) rfl G hpt (by rw [hax]) (xt3 108 rfl rfl) (xt3 106 rfl rfl) (xt3 107 rfl rfl) (xt1 0 rfl rfl) (by decide +kernel) rfl (by decide) hl.1 (Nat.le_of_ble_eq_true rfl) dL_law_300 hdd (by show _ ≤ 601024; omega) (by show _ ≤ 7293034; omega) (fun H1 locs1 w1 hag hpt => ?_)
    have hax1 : w1.1 x = ax := (hag x hok.1.1).1.trans hax
    have ham1 : w1.1 mm = am := (hag mm hok.2.1).1.trans ham
    refine lv_istore (lv' := (5, .int 0) :: [(0, .ref b), (1, .ref ax), (2, .ref am), (3, .ref qo), (4, .int (nI i))]) hx hb dL_law_303 hl (by decide) rfl (fun ls1 hl => ?_)
    refine lv_aload_n hx hb dL_law_305 rfl (lv_at hl 3 rfl) ?_
    refine lw_arg (k := 1) G hL hpt hl (List.mem_of_getElem? (i := 1) rfl) (List.mem_of_getElem? (i := 5) rfl) (by decide) (by omega) dL_law_306 dL_law_307 dL_law_309 dL_law_310 dL_law_311 ?_
    refine lw_arg (k := 2) G hL hpt hl (List.mem_of_getElem? (i := 1) rfl) (List.mem_of_getElem? (i := 5) rfl) (by decide) (by omega) dL_law_312 dL_law_313 dL_law_315 dL_law_316 dL_law_317 ?_
    refine lw_arg (k := 3) G hL hpt hl (List.mem_of_getElem? (i := 1) rfl) (List.mem_of_getElem? (i := 5) rfl) (by decide) (by omega) dL_law_318 dL_law_319 dL_law_321 dL_law_322 dL_law_323 ?_
    refine lw_callM (is := [.int (xs (i + 1)), .int (xs (i + 2)), .int (xs (i + 3))]) (rest := []) h2 G hpt ham1 o1.2.1 hf1 rfl (by decide) (xok_ints [(xs (i + 1)), (xs (i + 2)), (xs (i + 3))]) rfl (xt5 94 rfl rfl) (xt5 95 rfl rfl) (xt5 96 rfl rfl) hl.1 (Nat.le_of_ble_eq_true rfl) dL_law_324 hdd (by show _ ≤ 601024; omega) (by show _ ≤ 7293034; omega) (fun H2 locs2 w2 hag2 hpt => ?_)
    have hax2 : w2.1 x = ax := (hag2 x o1.1.1).1.trans hax1
    have ham2 : w2.1 mm = am := (hag2 mm o1.2.1).1.trans ham1
    refine lv_istore (lv' := (6, .int r) :: (5, .int 0) :: [(0, .ref b), (1, .ref ax), (2, .ref am), (3, .ref qo), (4, .int (nI i))]) hx hb dL_law_327 hl (by decide) rfl (fun ls2 hl => ?_)
    refine lv_aload_n hx hb dL_law_329 rfl (lv_at hl 4 rfl) ?_
    refine lw_callM (is := []) (rest := []) h3 G hpt ham2 o2.2.1 hf2 rfl (by decide) (xok_ints []) rfl (xt4 216 rfl rfl) (xt4 217 rfl rfl) (xt4 218 rfl rfl) hl.1 (Nat.le_of_ble_eq_true rfl) dL_law_330 hdd (by show _ ≤ 601024; omega) (by show _ ≤ 7293034; omega) (fun H3 locs3 w3 hag3 hpt => ?_)
    have hax3 : w3.1 x = ax := (hag3 x o2.1.1).1.trans hax2
    have ham3 : w3.1 mm = am := (hag3 mm o2.2.1).1.trans ham2
    refine lv_iload hx hb dL_law_333 (lv_at hl 1 rfl) ?_
    refine lv_icmp_eq (tgt := 340) hx hb dL_law_335 (by decide) (fun _ => ?_) (fun hne => absurd rfl hne)
    refine lv_iload hx hb dL_law_340 (lv_at hl 1 rfl) ?_
    refine lv_if_ne (tgt := 357) hx hb dL_law_342 (by decide) (fun hne => absurd rfl hne) (fun _ => ?_)
    refine lv_aload_n hx hb dL_law_345 rfl (lv_at hl 5 rfl) ?_
    refine lv_iconst (v := 0) hx hb dL_law_346 (by decide) ?_
    refine lw_laload G hpt dL_law_347 ?_
    rw [pk_uLs]
    refine lv_iload hx hb dL_law_348 (lv_at hl 0 rfl) ?_
    refine lv_i2l hx hb dL_law_350 rfl ?_
    refine W.lcmp hx hb dL_law_351 ?_
    rw [lg_cmp_self]
    refine lv_if_eq (tgt := 357) hx hb dL_law_352 (by decide) (fun _ => ?_) (fun hne => absurd rfl hne)
    refine lv_goto (tgt := 1247) hx hb dL_law_357 (by decide) ?_
    exact lw_num (by omega) (by omega) (hk σ2 w3 _ H3 locs3 _ t hI hax3 ham3 hpt (lv_sub hl [2, 3, 4, 5, 6] rfl) (by omega))
  · have q1 := xcallX_mono _ _ _ _ _ _ h1
    have q2 := xcall_mono _ _ _ _ _ _ h2
    have q3 := hbd σ2 hI
    obtain ⟨fs1, hf1⟩ := o1.2.2
    obtain ⟨fs2, hf2⟩ := o2.2.2
    rcases List.mem_cons.mp hek with hek | hek
    · cases hek
      refine lv_aload_n hx hb dL_law_280 rfl (lv_at hl 1 rfl) ?_
      refine lw_arg (k := 1) G hL hpt hl (List.mem_of_getElem? (i := 0) rfl) (List.mem_of_getElem? (i := 4) rfl) (by decide) (by omega) dL_law_281 dL_law_282 dL_law_284 dL_law_285 dL_law_286 ?_
      refine lw_arg (k := 2) G hL hpt hl (List.mem_of_getElem? (i := 0) rfl) (List.mem_of_getElem? (i := 4) rfl) (by decide) (by omega) dL_law_287 dL_law_288 dL_law_290 dL_law_291 dL_law_292 ?_
      refine lw_arg (k := 3) G hL hpt hl (List.mem_of_getElem? (i := 0) rfl) (List.mem_of_getElem? (i := 4) rfl) (by decide) (by omega) dL_law_293 dL_law_294 dL_law_296 dL_law_297 dL_law_298 ?_
      refine lv_aload_n hx hb dL_law_299 rfl (lv_at hl 3 rfl) ?_
      refine lw_callW (n := 5) (As := [.ref ax, .int (xs (i + 1)), .int (xs (i + 2)), .int (xs (i + 3)), .ref qo]) (rest := []) (wx_send_2 (v := v) hls h1 hok.1.1 hf0) rfl G hpt (by rw [hax]) (xt3 108 rfl rfl) (xt3 106 rfl rfl) (xt3 107 rfl rfl) (xt1 0 rfl rfl) (by decide +kernel) rfl (by decide) hl.1 (Nat.le_of_ble_eq_true rfl) dL_law_300 hdd (by show _ ≤ 601024; omega) (by show _ ≤ 7293034; omega) (fun H1 locs1 w1 hag hpt => ?_)
      have hax1 : w1.1 x = ax := (hag x hok.1.1).1.trans hax
      have ham1 : w1.1 mm = am := (hag mm hok.2.1).1.trans ham
      refine lv_istore (lv' := (5, .int 1) :: [(0, .ref b), (1, .ref ax), (2, .ref am), (3, .ref qo), (4, .int (nI i))]) hx hb dL_law_303 hl (by decide) rfl (fun ls1 hl => ?_)
      refine lv_aload_n hx hb dL_law_305 rfl (lv_at hl 3 rfl) ?_
      refine lw_arg (k := 1) G hL hpt hl (List.mem_of_getElem? (i := 1) rfl) (List.mem_of_getElem? (i := 5) rfl) (by decide) (by omega) dL_law_306 dL_law_307 dL_law_309 dL_law_310 dL_law_311 ?_
      refine lw_arg (k := 2) G hL hpt hl (List.mem_of_getElem? (i := 1) rfl) (List.mem_of_getElem? (i := 5) rfl) (by decide) (by omega) dL_law_312 dL_law_313 dL_law_315 dL_law_316 dL_law_317 ?_
      refine lw_arg (k := 3) G hL hpt hl (List.mem_of_getElem? (i := 1) rfl) (List.mem_of_getElem? (i := 5) rfl) (by decide) (by omega) dL_law_318 dL_law_319 dL_law_321 dL_law_322 dL_law_323 ?_
      refine lw_callM (is := [.int (xs (i + 1)), .int (xs (i + 2)), .int (xs (i + 3))]) (rest := []) h2 G hpt ham1 o1.2.1 hf1 rfl (by decide) (xok_ints [(xs (i + 1)), (xs (i + 2)), (xs (i + 3))]) rfl (xt5 94 rfl rfl) (xt5 95 rfl rfl) (xt5 96 rfl rfl) hl.1 (Nat.le_of_ble_eq_true rfl) dL_law_324 hdd (by show _ ≤ 601024; omega) (by show _ ≤ 7293034; omega) (fun H2 locs2 w2 hag2 hpt => ?_)
      have hax2 : w2.1 x = ax := (hag2 x o1.1.1).1.trans hax1
      have ham2 : w2.1 mm = am := (hag2 mm o1.2.1).1.trans ham1
      refine lv_istore (lv' := (6, .int b9) :: (5, .int 1) :: [(0, .ref b), (1, .ref ax), (2, .ref am), (3, .ref qo), (4, .int (nI i))]) hx hb dL_law_327 hl (by decide) rfl (fun ls2 hl => ?_)
      refine lv_aload_n hx hb dL_law_329 rfl (lv_at hl 4 rfl) ?_
      refine lw_callM (is := []) (rest := []) h3 G hpt ham2 o2.2.1 hf2 rfl (by decide) (xok_ints []) rfl (xt4 216 rfl rfl) (xt4 217 rfl rfl) (xt4 218 rfl rfl) hl.1 (Nat.le_of_ble_eq_true rfl) dL_law_330 hdd (by show _ ≤ 601024; omega) (by show _ ≤ 7293034; omega) (fun H3 locs3 w3 hag3 hpt => ?_)
      have hax3 : w3.1 x = ax := (hag3 x o2.1.1).1.trans hax2
      have ham3 : w3.1 mm = am := (hag3 mm o2.2.1).1.trans ham2
      refine lv_iload hx hb dL_law_333 (lv_at hl 1 rfl) ?_
      refine lv_icmp_eq (tgt := 340) hx hb dL_law_335 (by decide) (fun _ => ?_) (fun hne => absurd rfl hne)
      refine lv_iload hx hb dL_law_340 (lv_at hl 1 rfl) ?_
      refine lv_if_ne (tgt := 357) hx hb dL_law_342 (by decide) (fun _ => ?_) (fun hz0 => absurd hz0 (by decide))
      refine lv_goto (tgt := 1247) hx hb dL_law_357 (by decide) ?_
      exact lw_num (by omega) (by omega) (hk σ2 w3 _ H3 locs3 _ (t + 1) hI hax3 ham3 hpt (lv_sub hl [2, 3, 4, 5, 6] rfl) (by omega))
    rcases List.mem_cons.mp hek with hek | hek
    · cases hek
      refine lv_aload_n hx hb dL_law_280 rfl (lv_at hl 1 rfl) ?_
      refine lw_arg (k := 1) G hL hpt hl (List.mem_of_getElem? (i := 0) rfl) (List.mem_of_getElem? (i := 4) rfl) (by decide) (by omega) dL_law_281 dL_law_282 dL_law_284 dL_law_285 dL_law_286 ?_
      refine lw_arg (k := 2) G hL hpt hl (List.mem_of_getElem? (i := 0) rfl) (List.mem_of_getElem? (i := 4) rfl) (by decide) (by omega) dL_law_287 dL_law_288 dL_law_290 dL_law_291 dL_law_292 ?_
      refine lw_arg (k := 3) G hL hpt hl (List.mem_of_getElem? (i := 0) rfl) (List.mem_of_getElem? (i := 4) rfl) (by decide) (by omega) dL_law_293 dL_law_294 dL_law_296 dL_law_297 dL_law_298 ?_
      refine lv_aload_n hx hb dL_law_299 rfl (lv_at hl 3 rfl) ?_
      refine lw_callW (n := 5) (As := [.ref ax, .int (xs (i + 1)), .int (xs (i + 2)), .int (xs (i + 3)), .ref qo]) (rest := []) (wx_send_0 (v := v) hls h1 hok.1.1 hf0) rfl G hpt (by rw [hax]) (xt3 108 rfl rfl) (xt3 106 rfl rfl) (xt3 107 rfl rfl) (xt1 0 rfl rfl) (by decide +kernel) rfl (by decide) hl.1 (Nat.le_of_ble_eq_true rfl) dL_law_300 hdd (by show _ ≤ 601024; omega) (by show _ ≤ 7293034; omega) (fun H1 locs1 w1 hag hpt => ?_)
      have hax1 : w1.1 x = ax := (hag x hok.1.1).1.trans hax
      have ham1 : w1.1 mm = am := (hag mm hok.2.1).1.trans ham
      refine lv_istore (lv' := (5, .int 2) :: [(0, .ref b), (1, .ref ax), (2, .ref am), (3, .ref qo), (4, .int (nI i))]) hx hb dL_law_303 hl (by decide) rfl (fun ls1 hl => ?_)
      refine lv_aload_n hx hb dL_law_305 rfl (lv_at hl 3 rfl) ?_
      refine lw_arg (k := 1) G hL hpt hl (List.mem_of_getElem? (i := 1) rfl) (List.mem_of_getElem? (i := 5) rfl) (by decide) (by omega) dL_law_306 dL_law_307 dL_law_309 dL_law_310 dL_law_311 ?_
      refine lw_arg (k := 2) G hL hpt hl (List.mem_of_getElem? (i := 1) rfl) (List.mem_of_getElem? (i := 5) rfl) (by decide) (by omega) dL_law_312 dL_law_313 dL_law_315 dL_law_316 dL_law_317 ?_
      refine lw_arg (k := 3) G hL hpt hl (List.mem_of_getElem? (i := 1) rfl) (List.mem_of_getElem? (i := 5) rfl) (by decide) (by omega) dL_law_318 dL_law_319 dL_law_321 dL_law_322 dL_law_323 ?_
      refine lw_callM (is := [.int (xs (i + 1)), .int (xs (i + 2)), .int (xs (i + 3))]) (rest := []) h2 G hpt ham1 o1.2.1 hf1 rfl (by decide) (xok_ints [(xs (i + 1)), (xs (i + 2)), (xs (i + 3))]) rfl (xt5 94 rfl rfl) (xt5 95 rfl rfl) (xt5 96 rfl rfl) hl.1 (Nat.le_of_ble_eq_true rfl) dL_law_324 hdd (by show _ ≤ 601024; omega) (by show _ ≤ 7293034; omega) (fun H2 locs2 w2 hag2 hpt => ?_)
      have hax2 : w2.1 x = ax := (hag2 x o1.1.1).1.trans hax1
      have ham2 : w2.1 mm = am := (hag2 mm o1.2.1).1.trans ham1
      refine lv_istore (lv' := (6, .int b9) :: (5, .int 2) :: [(0, .ref b), (1, .ref ax), (2, .ref am), (3, .ref qo), (4, .int (nI i))]) hx hb dL_law_327 hl (by decide) rfl (fun ls2 hl => ?_)
      refine lv_aload_n hx hb dL_law_329 rfl (lv_at hl 4 rfl) ?_
      refine lw_callM (is := []) (rest := []) h3 G hpt ham2 o2.2.1 hf2 rfl (by decide) (xok_ints []) rfl (xt4 216 rfl rfl) (xt4 217 rfl rfl) (xt4 218 rfl rfl) hl.1 (Nat.le_of_ble_eq_true rfl) dL_law_330 hdd (by show _ ≤ 601024; omega) (by show _ ≤ 7293034; omega) (fun H3 locs3 w3 hag3 hpt => ?_)
      have hax3 : w3.1 x = ax := (hag3 x o2.1.1).1.trans hax2
      have ham3 : w3.1 mm = am := (hag3 mm o2.2.1).1.trans ham2
      refine lv_iload hx hb dL_law_333 (lv_at hl 1 rfl) ?_
      refine lv_icmp_eq (tgt := 340) hx hb dL_law_335 (by decide) (fun _ => ?_) (fun hne => absurd rfl hne)
      refine lv_iload hx hb dL_law_340 (lv_at hl 1 rfl) ?_
      refine lv_if_ne (tgt := 357) hx hb dL_law_342 (by decide) (fun _ => ?_) (fun hz0 => absurd hz0 (by decide))
      refine lv_goto (tgt := 1247) hx hb dL_law_357 (by decide) ?_
      exact lw_num (by omega) (by omega) (hk σ2 w3 _ H3 locs3 _ (t + 1) hI hax3 ham3 hpt (lv_sub hl [2, 3, 4, 5, 6] rfl) (by omega))
    cases hek
set_option maxHeartbeats 2000000 in
set_option maxRecDepth 100000 in
theorem lc_late {p : Program} {l : Launch} {e : Env} {s : State} {m : MethodId} {below : List Frame} {meth : Method} {c : Code} {Q : State → Prop} {D : va_G} {H : Heap} {locs : List Loc} {ls : Array Slot} {w : XW} {σ : XS} {qo ax am : Nat} {cL : ClassId} {v : Nat → Int64} {b L d x mm i t : Nat} {xs : Nat → Int32} {Inv : XS → Prop} (hls : l.stackTraces = false) (G : lwH p s m meth c b L xs) (hL : L ≤ 3072) (hi : i + 6 ≤ L) (hop : lwI d x mm 79 136 [.int (xs (i + 1))] [(2, 1)] Inv σ) (hok : lwOk x mm σ) (hbd : ∀ σ, Inv σ → σ.1 ≤ 2000 ∧ σ.2.1 ≤ 100000) (ht : t ≤ 3072) (hdd : d ≤ 1000) (hpt : lwPt D (lwA s) s H locs w σ qo cL v) (hax : w.1 x = ax) (ham : w.1 mm = am) (hl : lv_has ls 7 [(0, .ref b), (1, .ref ax), (2, .ref am), (3, .ref qo), (4, .int (nI i))])
    (hk : ∀ (σ' : XS) (w' : XW) (v' : Nat → Int64) (H' : Heap) (locs' : List Loc) (ls' : Array Slot) (t' : Nat), Inv σ' → w'.1 x = ax → w'.1 mm = am → lwPt D (lwA s) s H' locs' w' σ' qo cL v' → lv_has ls' 7 [(0, .ref b), (1, .ref ax), (2, .ref am), (3, .ref qo), (4, .int (nI i))] → t' ≤ t + 1 → W p l e room_1 s m #[Value.ref b] below meth c H' locs' (σ'.1 + 1 + t') (σ'.2.1 + 1 + 6 * t') Q (F0 m 1247 ls' [])) :
    W p l e room_1 s m #[Value.ref b] below meth c H locs (σ.1 + 1 + t) (σ.2.1 + 1 + 6 * t) Q (F0 m 360 ls []) := by
  obtain ⟨⟨hx, hb, hr, hml, hown, hts0, hX, hbl, hlocks, hgv⟩, hts, htn, hz, hnc⟩ := id G
  obtain ⟨fs0, hf0⟩ := hok.1.2
  rcases hop with ⟨N1, N2, N3, r, σ1, σ2, h1, o1, h2, o2, h3, hI⟩ | ⟨N1, N2, N3, E, k, b9, σ1, σ2, h1, hek, o1, h2, o2, h3, hI⟩
  · have q1 := xcall_mono _ _ _ _ _ _ h1
    have q2 := xcall_mono _ _ _ _ _ _ h2
    have q3 := hbd σ2 hI
    obtain ⟨fs1, hf1⟩ := o1.2.2
    obtain ⟨fs2, hf2⟩ := o2.2.2
    refine lv_aload_n hx hb dL_law_360 rfl (lv_at hl 1 rfl) ?_
    refine lw_arg (k := 1) G hL hpt hl (List.mem_of_getElem? (i := 0) rfl) (List.mem_of_getElem? (i := 4) rfl) (by decide) (by omega) dL_law_361 dL_law_362 dL_law_364 dL_law_365 dL_law_366 ?_
    refine lv_aload_n hx hb dL_law_367 rfl (lv_at hl 3 rfl) ?_
    refine lw_callW (n := 3) (As := [.ref ax, .int (xs (i + 1)), .ref qo]) (rest := []) (wn_late (v := v) h1 hok.1.1 hf0) rfl G hpt (by rw [hax]) (xt3 141 rfl rfl) (xt3 139 rfl rfl) (xt3 140 rfl rfl) (xt1 0 rfl rfl) (by decide +kernel) rfl (by decide) hl.1 (Nat.le_of_ble_eq_true rfl) dL_law_368 hdd (by show _ ≤ 601024; omega) (by show _ ≤ 7293034; omega) (fun H1 locs1 w1 hag hpt => ?_)
    have hax1 : w1.1 x = ax := (hag x hok.1.1).1.trans hax
    have ham1 : w1.1 mm = am := (hag mm hok.2.1).1.trans ham
    refine lv_istore (lv' := (5, .int 0) :: [(0, .ref b), (1, .ref ax), (2, .ref am), (3, .ref qo), (4, .int (nI i))]) hx hb dL_law_371 hl (by decide) rfl (fun ls1 hl => ?_)
    refine lv_aload_n hx hb dL_law_373 rfl (lv_at hl 3 rfl) ?_
    refine lw_arg (k := 1) G hL hpt hl (List.mem_of_getElem? (i := 1) rfl) (List.mem_of_getElem? (i := 5) rfl) (by decide) (by omega) dL_law_374 dL_law_375 dL_law_377 dL_law_378 dL_law_379 ?_
    refine lw_callM (is := [.int (xs (i + 1))]) (rest := []) h2 G hpt ham1 o1.2.1 hf1 rfl (by decide) (xok_ints [(xs (i + 1))]) rfl (xt5 98 rfl rfl) (xt5 99 rfl rfl) (xt5 100 rfl rfl) hl.1 (Nat.le_of_ble_eq_true rfl) dL_law_380 hdd (by show _ ≤ 601024; omega) (by show _ ≤ 7293034; omega) (fun H2 locs2 w2 hag2 hpt => ?_)
    have hax2 : w2.1 x = ax := (hag2 x o1.1.1).1.trans hax1
    have ham2 : w2.1 mm = am := (hag2 mm o1.2.1).1.trans ham1
    refine lv_istore (lv' := (6, .int r) :: (5, .int 0) :: [(0, .ref b), (1, .ref ax), (2, .ref am), (3, .ref qo), (4, .int (nI i))]) hx hb dL_law_383 hl (by decide) rfl (fun ls2 hl => ?_)
    refine lv_aload_n hx hb dL_law_385 rfl (lv_at hl 4 rfl) ?_
    refine lw_callM (is := []) (rest := []) h3 G hpt ham2 o2.2.1 hf2 rfl (by decide) (xok_ints []) rfl (xt4 216 rfl rfl) (xt4 217 rfl rfl) (xt4 218 rfl rfl) hl.1 (Nat.le_of_ble_eq_true rfl) dL_law_386 hdd (by show _ ≤ 601024; omega) (by show _ ≤ 7293034; omega) (fun H3 locs3 w3 hag3 hpt => ?_)
    have hax3 : w3.1 x = ax := (hag3 x o2.1.1).1.trans hax2
    have ham3 : w3.1 mm = am := (hag3 mm o2.2.1).1.trans ham2
    refine lv_iload hx hb dL_law_389 (lv_at hl 1 rfl) ?_
    refine lv_icmp_eq (tgt := 396) hx hb dL_law_391 (by decide) (fun _ => ?_) (fun hne => absurd rfl hne)
    refine lv_iload hx hb dL_law_396 (lv_at hl 1 rfl) ?_
    refine lv_if_ne (tgt := 413) hx hb dL_law_398 (by decide) (fun hne => absurd rfl hne) (fun _ => ?_)
    refine lv_aload_n hx hb dL_law_401 rfl (lv_at hl 5 rfl) ?_
    refine lv_iconst (v := 0) hx hb dL_law_402 (by decide) ?_
    refine lw_laload G hpt dL_law_403 ?_
    rw [pk_uLs]
    refine lv_iload hx hb dL_law_404 (lv_at hl 0 rfl) ?_
    refine lv_i2l hx hb dL_law_406 rfl ?_
    refine W.lcmp hx hb dL_law_407 ?_
    rw [lg_cmp_self]
    refine lv_if_eq (tgt := 413) hx hb dL_law_408 (by decide) (fun _ => ?_) (fun hne => absurd rfl hne)
    refine lv_goto (tgt := 1247) hx hb dL_law_413 (by decide) ?_
    exact lw_num (by omega) (by omega) (hk σ2 w3 _ H3 locs3 _ t hI hax3 ham3 hpt (lv_sub hl [2, 3, 4, 5, 6] rfl) (by omega))
  · have q1 := xcallX_mono _ _ _ _ _ _ h1
    have q2 := xcall_mono _ _ _ _ _ _ h2
    have q3 := hbd σ2 hI
    obtain ⟨fs1, hf1⟩ := o1.2.2
    obtain ⟨fs2, hf2⟩ := o2.2.2
    rcases List.mem_cons.mp hek with hek | hek
    · cases hek
      refine lv_aload_n hx hb dL_law_360 rfl (lv_at hl 1 rfl) ?_
      refine lw_arg (k := 1) G hL hpt hl (List.mem_of_getElem? (i := 0) rfl) (List.mem_of_getElem? (i := 4) rfl) (by decide) (by omega) dL_law_361 dL_law_362 dL_law_364 dL_law_365 dL_law_366 ?_
      refine lv_aload_n hx hb dL_law_367 rfl (lv_at hl 3 rfl) ?_
      refine lw_callW (n := 3) (As := [.ref ax, .int (xs (i + 1)), .ref qo]) (rest := []) (wx_late_2 (v := v) hls h1 hok.1.1 hf0) rfl G hpt (by rw [hax]) (xt3 141 rfl rfl) (xt3 139 rfl rfl) (xt3 140 rfl rfl) (xt1 0 rfl rfl) (by decide +kernel) rfl (by decide) hl.1 (Nat.le_of_ble_eq_true rfl) dL_law_368 hdd (by show _ ≤ 601024; omega) (by show _ ≤ 7293034; omega) (fun H1 locs1 w1 hag hpt => ?_)
      have hax1 : w1.1 x = ax := (hag x hok.1.1).1.trans hax
      have ham1 : w1.1 mm = am := (hag mm hok.2.1).1.trans ham
      refine lv_istore (lv' := (5, .int 1) :: [(0, .ref b), (1, .ref ax), (2, .ref am), (3, .ref qo), (4, .int (nI i))]) hx hb dL_law_371 hl (by decide) rfl (fun ls1 hl => ?_)
      refine lv_aload_n hx hb dL_law_373 rfl (lv_at hl 3 rfl) ?_
      refine lw_arg (k := 1) G hL hpt hl (List.mem_of_getElem? (i := 1) rfl) (List.mem_of_getElem? (i := 5) rfl) (by decide) (by omega) dL_law_374 dL_law_375 dL_law_377 dL_law_378 dL_law_379 ?_
      refine lw_callM (is := [.int (xs (i + 1))]) (rest := []) h2 G hpt ham1 o1.2.1 hf1 rfl (by decide) (xok_ints [(xs (i + 1))]) rfl (xt5 98 rfl rfl) (xt5 99 rfl rfl) (xt5 100 rfl rfl) hl.1 (Nat.le_of_ble_eq_true rfl) dL_law_380 hdd (by show _ ≤ 601024; omega) (by show _ ≤ 7293034; omega) (fun H2 locs2 w2 hag2 hpt => ?_)
      have hax2 : w2.1 x = ax := (hag2 x o1.1.1).1.trans hax1
      have ham2 : w2.1 mm = am := (hag2 mm o1.2.1).1.trans ham1
      refine lv_istore (lv' := (6, .int b9) :: (5, .int 1) :: [(0, .ref b), (1, .ref ax), (2, .ref am), (3, .ref qo), (4, .int (nI i))]) hx hb dL_law_383 hl (by decide) rfl (fun ls2 hl => ?_)
      refine lv_aload_n hx hb dL_law_385 rfl (lv_at hl 4 rfl) ?_
      refine lw_callM (is := []) (rest := []) h3 G hpt ham2 o2.2.1 hf2 rfl (by decide) (xok_ints []) rfl (xt4 216 rfl rfl) (xt4 217 rfl rfl) (xt4 218 rfl rfl) hl.1 (Nat.le_of_ble_eq_true rfl) dL_law_386 hdd (by show _ ≤ 601024; omega) (by show _ ≤ 7293034; omega) (fun H3 locs3 w3 hag3 hpt => ?_)
      have hax3 : w3.1 x = ax := (hag3 x o2.1.1).1.trans hax2
      have ham3 : w3.1 mm = am := (hag3 mm o2.2.1).1.trans ham2
      refine lv_iload hx hb dL_law_389 (lv_at hl 1 rfl) ?_
      refine lv_icmp_eq (tgt := 396) hx hb dL_law_391 (by decide) (fun _ => ?_) (fun hne => absurd rfl hne)
      refine lv_iload hx hb dL_law_396 (lv_at hl 1 rfl) ?_
      refine lv_if_ne (tgt := 413) hx hb dL_law_398 (by decide) (fun _ => ?_) (fun hz0 => absurd hz0 (by decide))
      refine lv_goto (tgt := 1247) hx hb dL_law_413 (by decide) ?_
      exact lw_num (by omega) (by omega) (hk σ2 w3 _ H3 locs3 _ (t + 1) hI hax3 ham3 hpt (lv_sub hl [2, 3, 4, 5, 6] rfl) (by omega))
    cases hek
set_option maxHeartbeats 2000000 in
set_option maxRecDepth 100000 in
theorem lc_ask {p : Program} {l : Launch} {e : Env} {s : State} {m : MethodId} {below : List Frame} {meth : Method} {c : Code} {Q : State → Prop} {D : va_G} {H : Heap} {locs : List Loc} {ls : Array Slot} {w : XW} {σ : XS} {qo ax am : Nat} {cL : ClassId} {v : Nat → Int64} {b L d x mm i t : Nat} {xs : Nat → Int32} {Inv : XS → Prop} (hls : l.stackTraces = false) (G : lwH p s m meth c b L xs) (hL : L ≤ 3072) (hi : i + 6 ≤ L) (hop : lwI d x mm 80 137 [.int (xs (i + 1)), .int (xs (i + 2))] [(2, 1), (0, 2)] Inv σ) (hok : lwOk x mm σ) (hbd : ∀ σ, Inv σ → σ.1 ≤ 2000 ∧ σ.2.1 ≤ 100000) (ht : t ≤ 3072) (hdd : d ≤ 1000) (hpt : lwPt D (lwA s) s H locs w σ qo cL v) (hax : w.1 x = ax) (ham : w.1 mm = am) (hl : lv_has ls 7 [(0, .ref b), (1, .ref ax), (2, .ref am), (3, .ref qo), (4, .int (nI i))])
    (hk : ∀ (σ' : XS) (w' : XW) (v' : Nat → Int64) (H' : Heap) (locs' : List Loc) (ls' : Array Slot) (t' : Nat), Inv σ' → w'.1 x = ax → w'.1 mm = am → lwPt D (lwA s) s H' locs' w' σ' qo cL v' → lv_has ls' 7 [(0, .ref b), (1, .ref ax), (2, .ref am), (3, .ref qo), (4, .int (nI i))] → t' ≤ t + 1 → W p l e room_1 s m #[Value.ref b] below meth c H' locs' (σ'.1 + 1 + t') (σ'.2.1 + 1 + 6 * t') Q (F0 m 1247 ls' [])) :
    W p l e room_1 s m #[Value.ref b] below meth c H locs (σ.1 + 1 + t) (σ.2.1 + 1 + 6 * t) Q (F0 m 416 ls []) := by
  obtain ⟨⟨hx, hb, hr, hml, hown, hts0, hX, hbl, hlocks, hgv⟩, hts, htn, hz, hnc⟩ := id G
  obtain ⟨fs0, hf0⟩ := hok.1.2
  rcases hop with ⟨N1, N2, N3, r, σ1, σ2, h1, o1, h2, o2, h3, hI⟩ | ⟨N1, N2, N3, E, k, b9, σ1, σ2, h1, hek, o1, h2, o2, h3, hI⟩
  · have q1 := xcall_mono _ _ _ _ _ _ h1
    have q2 := xcall_mono _ _ _ _ _ _ h2
    have q3 := hbd σ2 hI
    obtain ⟨fs1, hf1⟩ := o1.2.2
    obtain ⟨fs2, hf2⟩ := o2.2.2
    refine lv_aload_n hx hb dL_law_416 rfl (lv_at hl 1 rfl) ?_
    refine lw_arg (k := 1) G hL hpt hl (List.mem_of_getElem? (i := 0) rfl) (List.mem_of_getElem? (i := 4) rfl) (by decide) (by omega) dL_law_417 dL_law_418 dL_law_420 dL_law_421 dL_law_422 ?_
    refine lw_arg (k := 2) G hL hpt hl (List.mem_of_getElem? (i := 0) rfl) (List.mem_of_getElem? (i := 4) rfl) (by decide) (by omega) dL_law_423 dL_law_424 dL_law_426 dL_law_427 dL_law_428 ?_
    refine lv_aload_n hx hb dL_law_429 rfl (lv_at hl 3 rfl) ?_
    refine lw_callW (n := 4) (As := [.ref ax, .int (xs (i + 1)), .int (xs (i + 2)), .ref qo]) (rest := []) (wn_ask (v := v) h1 hok.1.1 hf0) rfl G hpt (by rw [hax]) (xt3 164 rfl rfl) (xt3 162 rfl rfl) (xt3 163 rfl rfl) (xt1 0 rfl rfl) (by decide +kernel) rfl (by decide) hl.1 (Nat.le_of_ble_eq_true rfl) dL_law_430 hdd (by show _ ≤ 601024; omega) (by show _ ≤ 7293034; omega) (fun H1 locs1 w1 hag hpt => ?_)
    have hax1 : w1.1 x = ax := (hag x hok.1.1).1.trans hax
    have ham1 : w1.1 mm = am := (hag mm hok.2.1).1.trans ham
    refine lv_istore (lv' := (5, .int 0) :: [(0, .ref b), (1, .ref ax), (2, .ref am), (3, .ref qo), (4, .int (nI i))]) hx hb dL_law_433 hl (by decide) rfl (fun ls1 hl => ?_)
    refine lv_aload_n hx hb dL_law_435 rfl (lv_at hl 3 rfl) ?_
    refine lw_arg (k := 1) G hL hpt hl (List.mem_of_getElem? (i := 1) rfl) (List.mem_of_getElem? (i := 5) rfl) (by decide) (by omega) dL_law_436 dL_law_437 dL_law_439 dL_law_440 dL_law_441 ?_
    refine lw_arg (k := 2) G hL hpt hl (List.mem_of_getElem? (i := 1) rfl) (List.mem_of_getElem? (i := 5) rfl) (by decide) (by omega) dL_law_442 dL_law_443 dL_law_445 dL_law_446 dL_law_447 ?_
    refine lw_callM (is := [.int (xs (i + 1)), .int (xs (i + 2))]) (rest := []) h2 G hpt ham1 o1.2.1 hf1 rfl (by decide) (xok_ints [(xs (i + 1)), (xs (i + 2))]) rfl (xt5 106 rfl rfl) (xt5 107 rfl rfl) (xt5 108 rfl rfl) hl.1 (Nat.le_of_ble_eq_true rfl) dL_law_448 hdd (by show _ ≤ 601024; omega) (by show _ ≤ 7293034; omega) (fun H2 locs2 w2 hag2 hpt => ?_)
    have hax2 : w2.1 x = ax := (hag2 x o1.1.1).1.trans hax1
    have ham2 : w2.1 mm = am := (hag2 mm o1.2.1).1.trans ham1
    refine lv_istore (lv' := (6, .int r) :: (5, .int 0) :: [(0, .ref b), (1, .ref ax), (2, .ref am), (3, .ref qo), (4, .int (nI i))]) hx hb dL_law_451 hl (by decide) rfl (fun ls2 hl => ?_)
    refine lv_aload_n hx hb dL_law_453 rfl (lv_at hl 4 rfl) ?_
    refine lw_callM (is := []) (rest := []) h3 G hpt ham2 o2.2.1 hf2 rfl (by decide) (xok_ints []) rfl (xt4 216 rfl rfl) (xt4 217 rfl rfl) (xt4 218 rfl rfl) hl.1 (Nat.le_of_ble_eq_true rfl) dL_law_454 hdd (by show _ ≤ 601024; omega) (by show _ ≤ 7293034; omega) (fun H3 locs3 w3 hag3 hpt => ?_)
    have hax3 : w3.1 x = ax := (hag3 x o2.1.1).1.trans hax2
    have ham3 : w3.1 mm = am := (hag3 mm o2.2.1).1.trans ham2
    refine lv_iload hx hb dL_law_457 (lv_at hl 1 rfl) ?_
    refine lv_icmp_eq (tgt := 464) hx hb dL_law_459 (by decide) (fun _ => ?_) (fun hne => absurd rfl hne)
    refine lv_iload hx hb dL_law_464 (lv_at hl 1 rfl) ?_
    refine lv_if_ne (tgt := 481) hx hb dL_law_466 (by decide) (fun hne => absurd rfl hne) (fun _ => ?_)
    refine lv_aload_n hx hb dL_law_469 rfl (lv_at hl 5 rfl) ?_
    refine lv_iconst (v := 0) hx hb dL_law_470 (by decide) ?_
    refine lw_laload G hpt dL_law_471 ?_
    rw [pk_uLs]
    refine lv_iload hx hb dL_law_472 (lv_at hl 0 rfl) ?_
    refine lv_i2l hx hb dL_law_474 rfl ?_
    refine W.lcmp hx hb dL_law_475 ?_
    rw [lg_cmp_self]
    refine lv_if_eq (tgt := 481) hx hb dL_law_476 (by decide) (fun _ => ?_) (fun hne => absurd rfl hne)
    refine lv_goto (tgt := 1247) hx hb dL_law_481 (by decide) ?_
    exact lw_num (by omega) (by omega) (hk σ2 w3 _ H3 locs3 _ t hI hax3 ham3 hpt (lv_sub hl [2, 3, 4, 5, 6] rfl) (by omega))
  · have q1 := xcallX_mono _ _ _ _ _ _ h1
    have q2 := xcall_mono _ _ _ _ _ _ h2
    have q3 := hbd σ2 hI
    obtain ⟨fs1, hf1⟩ := o1.2.2
    obtain ⟨fs2, hf2⟩ := o2.2.2
    rcases List.mem_cons.mp hek with hek | hek
    · cases hek
      refine lv_aload_n hx hb dL_law_416 rfl (lv_at hl 1 rfl) ?_
      refine lw_arg (k := 1) G hL hpt hl (List.mem_of_getElem? (i := 0) rfl) (List.mem_of_getElem? (i := 4) rfl) (by decide) (by omega) dL_law_417 dL_law_418 dL_law_420 dL_law_421 dL_law_422 ?_
      refine lw_arg (k := 2) G hL hpt hl (List.mem_of_getElem? (i := 0) rfl) (List.mem_of_getElem? (i := 4) rfl) (by decide) (by omega) dL_law_423 dL_law_424 dL_law_426 dL_law_427 dL_law_428 ?_
      refine lv_aload_n hx hb dL_law_429 rfl (lv_at hl 3 rfl) ?_
      refine lw_callW (n := 4) (As := [.ref ax, .int (xs (i + 1)), .int (xs (i + 2)), .ref qo]) (rest := []) (wx_ask_2 (v := v) hls h1 hok.1.1 hf0) rfl G hpt (by rw [hax]) (xt3 164 rfl rfl) (xt3 162 rfl rfl) (xt3 163 rfl rfl) (xt1 0 rfl rfl) (by decide +kernel) rfl (by decide) hl.1 (Nat.le_of_ble_eq_true rfl) dL_law_430 hdd (by show _ ≤ 601024; omega) (by show _ ≤ 7293034; omega) (fun H1 locs1 w1 hag hpt => ?_)
      have hax1 : w1.1 x = ax := (hag x hok.1.1).1.trans hax
      have ham1 : w1.1 mm = am := (hag mm hok.2.1).1.trans ham
      refine lv_istore (lv' := (5, .int 1) :: [(0, .ref b), (1, .ref ax), (2, .ref am), (3, .ref qo), (4, .int (nI i))]) hx hb dL_law_433 hl (by decide) rfl (fun ls1 hl => ?_)
      refine lv_aload_n hx hb dL_law_435 rfl (lv_at hl 3 rfl) ?_
      refine lw_arg (k := 1) G hL hpt hl (List.mem_of_getElem? (i := 1) rfl) (List.mem_of_getElem? (i := 5) rfl) (by decide) (by omega) dL_law_436 dL_law_437 dL_law_439 dL_law_440 dL_law_441 ?_
      refine lw_arg (k := 2) G hL hpt hl (List.mem_of_getElem? (i := 1) rfl) (List.mem_of_getElem? (i := 5) rfl) (by decide) (by omega) dL_law_442 dL_law_443 dL_law_445 dL_law_446 dL_law_447 ?_
      refine lw_callM (is := [.int (xs (i + 1)), .int (xs (i + 2))]) (rest := []) h2 G hpt ham1 o1.2.1 hf1 rfl (by decide) (xok_ints [(xs (i + 1)), (xs (i + 2))]) rfl (xt5 106 rfl rfl) (xt5 107 rfl rfl) (xt5 108 rfl rfl) hl.1 (Nat.le_of_ble_eq_true rfl) dL_law_448 hdd (by show _ ≤ 601024; omega) (by show _ ≤ 7293034; omega) (fun H2 locs2 w2 hag2 hpt => ?_)
      have hax2 : w2.1 x = ax := (hag2 x o1.1.1).1.trans hax1
      have ham2 : w2.1 mm = am := (hag2 mm o1.2.1).1.trans ham1
      refine lv_istore (lv' := (6, .int b9) :: (5, .int 1) :: [(0, .ref b), (1, .ref ax), (2, .ref am), (3, .ref qo), (4, .int (nI i))]) hx hb dL_law_451 hl (by decide) rfl (fun ls2 hl => ?_)
      refine lv_aload_n hx hb dL_law_453 rfl (lv_at hl 4 rfl) ?_
      refine lw_callM (is := []) (rest := []) h3 G hpt ham2 o2.2.1 hf2 rfl (by decide) (xok_ints []) rfl (xt4 216 rfl rfl) (xt4 217 rfl rfl) (xt4 218 rfl rfl) hl.1 (Nat.le_of_ble_eq_true rfl) dL_law_454 hdd (by show _ ≤ 601024; omega) (by show _ ≤ 7293034; omega) (fun H3 locs3 w3 hag3 hpt => ?_)
      have hax3 : w3.1 x = ax := (hag3 x o2.1.1).1.trans hax2
      have ham3 : w3.1 mm = am := (hag3 mm o2.2.1).1.trans ham2
      refine lv_iload hx hb dL_law_457 (lv_at hl 1 rfl) ?_
      refine lv_icmp_eq (tgt := 464) hx hb dL_law_459 (by decide) (fun _ => ?_) (fun hne => absurd rfl hne)
      refine lv_iload hx hb dL_law_464 (lv_at hl 1 rfl) ?_
      refine lv_if_ne (tgt := 481) hx hb dL_law_466 (by decide) (fun _ => ?_) (fun hz0 => absurd hz0 (by decide))
      refine lv_goto (tgt := 1247) hx hb dL_law_481 (by decide) ?_
      exact lw_num (by omega) (by omega) (hk σ2 w3 _ H3 locs3 _ (t + 1) hI hax3 ham3 hpt (lv_sub hl [2, 3, 4, 5, 6] rfl) (by omega))
    rcases List.mem_cons.mp hek with hek | hek
    · cases hek
      refine lv_aload_n hx hb dL_law_416 rfl (lv_at hl 1 rfl) ?_
      refine lw_arg (k := 1) G hL hpt hl (List.mem_of_getElem? (i := 0) rfl) (List.mem_of_getElem? (i := 4) rfl) (by decide) (by omega) dL_law_417 dL_law_418 dL_law_420 dL_law_421 dL_law_422 ?_
      refine lw_arg (k := 2) G hL hpt hl (List.mem_of_getElem? (i := 0) rfl) (List.mem_of_getElem? (i := 4) rfl) (by decide) (by omega) dL_law_423 dL_law_424 dL_law_426 dL_law_427 dL_law_428 ?_
      refine lv_aload_n hx hb dL_law_429 rfl (lv_at hl 3 rfl) ?_
      refine lw_callW (n := 4) (As := [.ref ax, .int (xs (i + 1)), .int (xs (i + 2)), .ref qo]) (rest := []) (wx_ask_0 (v := v) hls h1 hok.1.1 hf0) rfl G hpt (by rw [hax]) (xt3 164 rfl rfl) (xt3 162 rfl rfl) (xt3 163 rfl rfl) (xt1 0 rfl rfl) (by decide +kernel) rfl (by decide) hl.1 (Nat.le_of_ble_eq_true rfl) dL_law_430 hdd (by show _ ≤ 601024; omega) (by show _ ≤ 7293034; omega) (fun H1 locs1 w1 hag hpt => ?_)
      have hax1 : w1.1 x = ax := (hag x hok.1.1).1.trans hax
      have ham1 : w1.1 mm = am := (hag mm hok.2.1).1.trans ham
      refine lv_istore (lv' := (5, .int 2) :: [(0, .ref b), (1, .ref ax), (2, .ref am), (3, .ref qo), (4, .int (nI i))]) hx hb dL_law_433 hl (by decide) rfl (fun ls1 hl => ?_)
      refine lv_aload_n hx hb dL_law_435 rfl (lv_at hl 3 rfl) ?_
      refine lw_arg (k := 1) G hL hpt hl (List.mem_of_getElem? (i := 1) rfl) (List.mem_of_getElem? (i := 5) rfl) (by decide) (by omega) dL_law_436 dL_law_437 dL_law_439 dL_law_440 dL_law_441 ?_
      refine lw_arg (k := 2) G hL hpt hl (List.mem_of_getElem? (i := 1) rfl) (List.mem_of_getElem? (i := 5) rfl) (by decide) (by omega) dL_law_442 dL_law_443 dL_law_445 dL_law_446 dL_law_447 ?_
      refine lw_callM (is := [.int (xs (i + 1)), .int (xs (i + 2))]) (rest := []) h2 G hpt ham1 o1.2.1 hf1 rfl (by decide) (xok_ints [(xs (i + 1)), (xs (i + 2))]) rfl (xt5 106 rfl rfl) (xt5 107 rfl rfl) (xt5 108 rfl rfl) hl.1 (Nat.le_of_ble_eq_true rfl) dL_law_448 hdd (by show _ ≤ 601024; omega) (by show _ ≤ 7293034; omega) (fun H2 locs2 w2 hag2 hpt => ?_)
      have hax2 : w2.1 x = ax := (hag2 x o1.1.1).1.trans hax1
      have ham2 : w2.1 mm = am := (hag2 mm o1.2.1).1.trans ham1
      refine lv_istore (lv' := (6, .int b9) :: (5, .int 2) :: [(0, .ref b), (1, .ref ax), (2, .ref am), (3, .ref qo), (4, .int (nI i))]) hx hb dL_law_451 hl (by decide) rfl (fun ls2 hl => ?_)
      refine lv_aload_n hx hb dL_law_453 rfl (lv_at hl 4 rfl) ?_
      refine lw_callM (is := []) (rest := []) h3 G hpt ham2 o2.2.1 hf2 rfl (by decide) (xok_ints []) rfl (xt4 216 rfl rfl) (xt4 217 rfl rfl) (xt4 218 rfl rfl) hl.1 (Nat.le_of_ble_eq_true rfl) dL_law_454 hdd (by show _ ≤ 601024; omega) (by show _ ≤ 7293034; omega) (fun H3 locs3 w3 hag3 hpt => ?_)
      have hax3 : w3.1 x = ax := (hag3 x o2.1.1).1.trans hax2
      have ham3 : w3.1 mm = am := (hag3 mm o2.2.1).1.trans ham2
      refine lv_iload hx hb dL_law_457 (lv_at hl 1 rfl) ?_
      refine lv_icmp_eq (tgt := 464) hx hb dL_law_459 (by decide) (fun _ => ?_) (fun hne => absurd rfl hne)
      refine lv_iload hx hb dL_law_464 (lv_at hl 1 rfl) ?_
      refine lv_if_ne (tgt := 481) hx hb dL_law_466 (by decide) (fun _ => ?_) (fun hz0 => absurd hz0 (by decide))
      refine lv_goto (tgt := 1247) hx hb dL_law_481 (by decide) ?_
      exact lw_num (by omega) (by omega) (hk σ2 w3 _ H3 locs3 _ (t + 1) hI hax3 ham3 hpt (lv_sub hl [2, 3, 4, 5, 6] rfl) (by omega))
    cases hek
set_option maxHeartbeats 2000000 in
set_option maxRecDepth 100000 in
theorem lc_reply {p : Program} {l : Launch} {e : Env} {s : State} {m : MethodId} {below : List Frame} {meth : Method} {c : Code} {Q : State → Prop} {D : va_G} {H : Heap} {locs : List Loc} {ls : Array Slot} {w : XW} {σ : XS} {qo ax am : Nat} {cL : ClassId} {v : Nat → Int64} {b L d x mm i t : Nat} {xs : Nat → Int32} {Inv : XS → Prop} (hls : l.stackTraces = false) (G : lwH p s m meth c b L xs) (hL : L ≤ 3072) (hi : i + 6 ≤ L) (hop : lwI d x mm 81 138 [.int (xs (i + 1)), .int (xs (i + 2))] [(2, 1)] Inv σ) (hok : lwOk x mm σ) (hbd : ∀ σ, Inv σ → σ.1 ≤ 2000 ∧ σ.2.1 ≤ 100000) (ht : t ≤ 3072) (hdd : d ≤ 1000) (hpt : lwPt D (lwA s) s H locs w σ qo cL v) (hax : w.1 x = ax) (ham : w.1 mm = am) (hl : lv_has ls 7 [(0, .ref b), (1, .ref ax), (2, .ref am), (3, .ref qo), (4, .int (nI i))])
    (hk : ∀ (σ' : XS) (w' : XW) (v' : Nat → Int64) (H' : Heap) (locs' : List Loc) (ls' : Array Slot) (t' : Nat), Inv σ' → w'.1 x = ax → w'.1 mm = am → lwPt D (lwA s) s H' locs' w' σ' qo cL v' → lv_has ls' 7 [(0, .ref b), (1, .ref ax), (2, .ref am), (3, .ref qo), (4, .int (nI i))] → t' ≤ t + 1 → W p l e room_1 s m #[Value.ref b] below meth c H' locs' (σ'.1 + 1 + t') (σ'.2.1 + 1 + 6 * t') Q (F0 m 1247 ls' [])) :
    W p l e room_1 s m #[Value.ref b] below meth c H locs (σ.1 + 1 + t) (σ.2.1 + 1 + 6 * t) Q (F0 m 484 ls []) := by
  obtain ⟨⟨hx, hb, hr, hml, hown, hts0, hX, hbl, hlocks, hgv⟩, hts, htn, hz, hnc⟩ := id G
  obtain ⟨fs0, hf0⟩ := hok.1.2
  rcases hop with ⟨N1, N2, N3, r, σ1, σ2, h1, o1, h2, o2, h3, hI⟩ | ⟨N1, N2, N3, E, k, b9, σ1, σ2, h1, hek, o1, h2, o2, h3, hI⟩
  · have q1 := xcall_mono _ _ _ _ _ _ h1
    have q2 := xcall_mono _ _ _ _ _ _ h2
    have q3 := hbd σ2 hI
    obtain ⟨fs1, hf1⟩ := o1.2.2
    obtain ⟨fs2, hf2⟩ := o2.2.2
    refine lv_aload_n hx hb dL_law_484 rfl (lv_at hl 1 rfl) ?_
    refine lw_arg (k := 1) G hL hpt hl (List.mem_of_getElem? (i := 0) rfl) (List.mem_of_getElem? (i := 4) rfl) (by decide) (by omega) dL_law_485 dL_law_486 dL_law_488 dL_law_489 dL_law_490 ?_
    refine lw_arg (k := 2) G hL hpt hl (List.mem_of_getElem? (i := 0) rfl) (List.mem_of_getElem? (i := 4) rfl) (by decide) (by omega) dL_law_491 dL_law_492 dL_law_494 dL_law_495 dL_law_496 ?_
    refine lv_aload_n hx hb dL_law_497 rfl (lv_at hl 3 rfl) ?_
    refine lw_callW (n := 4) (As := [.ref ax, .int (xs (i + 1)), .int (xs (i + 2)), .ref qo]) (rest := []) (wn_reply (v := v) h1 hok.1.1 hf0) rfl G hpt (by rw [hax]) (xt3 175 rfl rfl) (xt3 173 rfl rfl) (xt3 174 rfl rfl) (xt1 0 rfl rfl) (by decide +kernel) rfl (by decide) hl.1 (Nat.le_of_ble_eq_true rfl) dL_law_498 hdd (by show _ ≤ 601024; omega) (by show _ ≤ 7293034; omega) (fun H1 locs1 w1 hag hpt => ?_)
    have hax1 : w1.1 x = ax := (hag x hok.1.1).1.trans hax
    have ham1 : w1.1 mm = am := (hag mm hok.2.1).1.trans ham
    refine lv_istore (lv' := (5, .int 0) :: [(0, .ref b), (1, .ref ax), (2, .ref am), (3, .ref qo), (4, .int (nI i))]) hx hb dL_law_501 hl (by decide) rfl (fun ls1 hl => ?_)
    refine lv_aload_n hx hb dL_law_503 rfl (lv_at hl 3 rfl) ?_
    refine lw_arg (k := 1) G hL hpt hl (List.mem_of_getElem? (i := 1) rfl) (List.mem_of_getElem? (i := 5) rfl) (by decide) (by omega) dL_law_504 dL_law_505 dL_law_507 dL_law_508 dL_law_509 ?_
    refine lw_arg (k := 2) G hL hpt hl (List.mem_of_getElem? (i := 1) rfl) (List.mem_of_getElem? (i := 5) rfl) (by decide) (by omega) dL_law_510 dL_law_511 dL_law_513 dL_law_514 dL_law_515 ?_
    refine lw_callM (is := [.int (xs (i + 1)), .int (xs (i + 2))]) (rest := []) h2 G hpt ham1 o1.2.1 hf1 rfl (by decide) (xok_ints [(xs (i + 1)), (xs (i + 2))]) rfl (xt5 110 rfl rfl) (xt5 111 rfl rfl) (xt5 112 rfl rfl) hl.1 (Nat.le_of_ble_eq_true rfl) dL_law_516 hdd (by show _ ≤ 601024; omega) (by show _ ≤ 7293034; omega) (fun H2 locs2 w2 hag2 hpt => ?_)
    have hax2 : w2.1 x = ax := (hag2 x o1.1.1).1.trans hax1
    have ham2 : w2.1 mm = am := (hag2 mm o1.2.1).1.trans ham1
    refine lv_istore (lv' := (6, .int r) :: (5, .int 0) :: [(0, .ref b), (1, .ref ax), (2, .ref am), (3, .ref qo), (4, .int (nI i))]) hx hb dL_law_519 hl (by decide) rfl (fun ls2 hl => ?_)
    refine lv_aload_n hx hb dL_law_521 rfl (lv_at hl 4 rfl) ?_
    refine lw_callM (is := []) (rest := []) h3 G hpt ham2 o2.2.1 hf2 rfl (by decide) (xok_ints []) rfl (xt4 216 rfl rfl) (xt4 217 rfl rfl) (xt4 218 rfl rfl) hl.1 (Nat.le_of_ble_eq_true rfl) dL_law_522 hdd (by show _ ≤ 601024; omega) (by show _ ≤ 7293034; omega) (fun H3 locs3 w3 hag3 hpt => ?_)
    have hax3 : w3.1 x = ax := (hag3 x o2.1.1).1.trans hax2
    have ham3 : w3.1 mm = am := (hag3 mm o2.2.1).1.trans ham2
    refine lv_iload hx hb dL_law_525 (lv_at hl 1 rfl) ?_
    refine lv_icmp_eq (tgt := 532) hx hb dL_law_527 (by decide) (fun _ => ?_) (fun hne => absurd rfl hne)
    refine lv_iload hx hb dL_law_532 (lv_at hl 1 rfl) ?_
    refine lv_if_ne (tgt := 549) hx hb dL_law_534 (by decide) (fun hne => absurd rfl hne) (fun _ => ?_)
    refine lv_aload_n hx hb dL_law_537 rfl (lv_at hl 5 rfl) ?_
    refine lv_iconst (v := 0) hx hb dL_law_538 (by decide) ?_
    refine lw_laload G hpt dL_law_539 ?_
    rw [pk_uLs]
    refine lv_iload hx hb dL_law_540 (lv_at hl 0 rfl) ?_
    refine lv_i2l hx hb dL_law_542 rfl ?_
    refine W.lcmp hx hb dL_law_543 ?_
    rw [lg_cmp_self]
    refine lv_if_eq (tgt := 549) hx hb dL_law_544 (by decide) (fun _ => ?_) (fun hne => absurd rfl hne)
    refine lv_goto (tgt := 1247) hx hb dL_law_549 (by decide) ?_
    exact lw_num (by omega) (by omega) (hk σ2 w3 _ H3 locs3 _ t hI hax3 ham3 hpt (lv_sub hl [2, 3, 4, 5, 6] rfl) (by omega))
  · have q1 := xcallX_mono _ _ _ _ _ _ h1
    have q2 := xcall_mono _ _ _ _ _ _ h2
    have q3 := hbd σ2 hI
    obtain ⟨fs1, hf1⟩ := o1.2.2
    obtain ⟨fs2, hf2⟩ := o2.2.2
    rcases List.mem_cons.mp hek with hek | hek
    · cases hek
      refine lv_aload_n hx hb dL_law_484 rfl (lv_at hl 1 rfl) ?_
      refine lw_arg (k := 1) G hL hpt hl (List.mem_of_getElem? (i := 0) rfl) (List.mem_of_getElem? (i := 4) rfl) (by decide) (by omega) dL_law_485 dL_law_486 dL_law_488 dL_law_489 dL_law_490 ?_
      refine lw_arg (k := 2) G hL hpt hl (List.mem_of_getElem? (i := 0) rfl) (List.mem_of_getElem? (i := 4) rfl) (by decide) (by omega) dL_law_491 dL_law_492 dL_law_494 dL_law_495 dL_law_496 ?_
      refine lv_aload_n hx hb dL_law_497 rfl (lv_at hl 3 rfl) ?_
      refine lw_callW (n := 4) (As := [.ref ax, .int (xs (i + 1)), .int (xs (i + 2)), .ref qo]) (rest := []) (wx_reply_2 (v := v) hls h1 hok.1.1 hf0) rfl G hpt (by rw [hax]) (xt3 175 rfl rfl) (xt3 173 rfl rfl) (xt3 174 rfl rfl) (xt1 0 rfl rfl) (by decide +kernel) rfl (by decide) hl.1 (Nat.le_of_ble_eq_true rfl) dL_law_498 hdd (by show _ ≤ 601024; omega) (by show _ ≤ 7293034; omega) (fun H1 locs1 w1 hag hpt => ?_)
      have hax1 : w1.1 x = ax := (hag x hok.1.1).1.trans hax
      have ham1 : w1.1 mm = am := (hag mm hok.2.1).1.trans ham
      refine lv_istore (lv' := (5, .int 1) :: [(0, .ref b), (1, .ref ax), (2, .ref am), (3, .ref qo), (4, .int (nI i))]) hx hb dL_law_501 hl (by decide) rfl (fun ls1 hl => ?_)
      refine lv_aload_n hx hb dL_law_503 rfl (lv_at hl 3 rfl) ?_
      refine lw_arg (k := 1) G hL hpt hl (List.mem_of_getElem? (i := 1) rfl) (List.mem_of_getElem? (i := 5) rfl) (by decide) (by omega) dL_law_504 dL_law_505 dL_law_507 dL_law_508 dL_law_509 ?_
      refine lw_arg (k := 2) G hL hpt hl (List.mem_of_getElem? (i := 1) rfl) (List.mem_of_getElem? (i := 5) rfl) (by decide) (by omega) dL_law_510 dL_law_511 dL_law_513 dL_law_514 dL_law_515 ?_
      refine lw_callM (is := [.int (xs (i + 1)), .int (xs (i + 2))]) (rest := []) h2 G hpt ham1 o1.2.1 hf1 rfl (by decide) (xok_ints [(xs (i + 1)), (xs (i + 2))]) rfl (xt5 110 rfl rfl) (xt5 111 rfl rfl) (xt5 112 rfl rfl) hl.1 (Nat.le_of_ble_eq_true rfl) dL_law_516 hdd (by show _ ≤ 601024; omega) (by show _ ≤ 7293034; omega) (fun H2 locs2 w2 hag2 hpt => ?_)
      have hax2 : w2.1 x = ax := (hag2 x o1.1.1).1.trans hax1
      have ham2 : w2.1 mm = am := (hag2 mm o1.2.1).1.trans ham1
      refine lv_istore (lv' := (6, .int b9) :: (5, .int 1) :: [(0, .ref b), (1, .ref ax), (2, .ref am), (3, .ref qo), (4, .int (nI i))]) hx hb dL_law_519 hl (by decide) rfl (fun ls2 hl => ?_)
      refine lv_aload_n hx hb dL_law_521 rfl (lv_at hl 4 rfl) ?_
      refine lw_callM (is := []) (rest := []) h3 G hpt ham2 o2.2.1 hf2 rfl (by decide) (xok_ints []) rfl (xt4 216 rfl rfl) (xt4 217 rfl rfl) (xt4 218 rfl rfl) hl.1 (Nat.le_of_ble_eq_true rfl) dL_law_522 hdd (by show _ ≤ 601024; omega) (by show _ ≤ 7293034; omega) (fun H3 locs3 w3 hag3 hpt => ?_)
      have hax3 : w3.1 x = ax := (hag3 x o2.1.1).1.trans hax2
      have ham3 : w3.1 mm = am := (hag3 mm o2.2.1).1.trans ham2
      refine lv_iload hx hb dL_law_525 (lv_at hl 1 rfl) ?_
      refine lv_icmp_eq (tgt := 532) hx hb dL_law_527 (by decide) (fun _ => ?_) (fun hne => absurd rfl hne)
      refine lv_iload hx hb dL_law_532 (lv_at hl 1 rfl) ?_
      refine lv_if_ne (tgt := 549) hx hb dL_law_534 (by decide) (fun _ => ?_) (fun hz0 => absurd hz0 (by decide))
      refine lv_goto (tgt := 1247) hx hb dL_law_549 (by decide) ?_
      exact lw_num (by omega) (by omega) (hk σ2 w3 _ H3 locs3 _ (t + 1) hI hax3 ham3 hpt (lv_sub hl [2, 3, 4, 5, 6] rfl) (by omega))
    cases hek
set_option maxHeartbeats 2000000 in
set_option maxRecDepth 100000 in
theorem lc_lie {p : Program} {l : Launch} {e : Env} {s : State} {m : MethodId} {below : List Frame} {meth : Method} {c : Code} {Q : State → Prop} {D : va_G} {H : Heap} {locs : List Loc} {ls : Array Slot} {w : XW} {σ : XS} {qo ax am : Nat} {cL : ClassId} {v : Nat → Int64} {b L d x mm i t : Nat} {xs : Nat → Int32} {Inv : XS → Prop} (hls : l.stackTraces = false) (G : lwH p s m meth c b L xs) (hL : L ≤ 3072) (hi : i + 6 ≤ L) (hop : lwI d x mm 82 139 [.int (xs (i + 1))] [(2, 1)] Inv σ) (hok : lwOk x mm σ) (hbd : ∀ σ, Inv σ → σ.1 ≤ 2000 ∧ σ.2.1 ≤ 100000) (ht : t ≤ 3072) (hdd : d ≤ 1000) (hpt : lwPt D (lwA s) s H locs w σ qo cL v) (hax : w.1 x = ax) (ham : w.1 mm = am) (hl : lv_has ls 7 [(0, .ref b), (1, .ref ax), (2, .ref am), (3, .ref qo), (4, .int (nI i))])
    (hk : ∀ (σ' : XS) (w' : XW) (v' : Nat → Int64) (H' : Heap) (locs' : List Loc) (ls' : Array Slot) (t' : Nat), Inv σ' → w'.1 x = ax → w'.1 mm = am → lwPt D (lwA s) s H' locs' w' σ' qo cL v' → lv_has ls' 7 [(0, .ref b), (1, .ref ax), (2, .ref am), (3, .ref qo), (4, .int (nI i))] → t' ≤ t + 1 → W p l e room_1 s m #[Value.ref b] below meth c H' locs' (σ'.1 + 1 + t') (σ'.2.1 + 1 + 6 * t') Q (F0 m 1247 ls' [])) :
    W p l e room_1 s m #[Value.ref b] below meth c H locs (σ.1 + 1 + t) (σ.2.1 + 1 + 6 * t) Q (F0 m 552 ls []) := by
  obtain ⟨⟨hx, hb, hr, hml, hown, hts0, hX, hbl, hlocks, hgv⟩, hts, htn, hz, hnc⟩ := id G
  obtain ⟨fs0, hf0⟩ := hok.1.2
  rcases hop with ⟨N1, N2, N3, r, σ1, σ2, h1, o1, h2, o2, h3, hI⟩ | ⟨N1, N2, N3, E, k, b9, σ1, σ2, h1, hek, o1, h2, o2, h3, hI⟩
  · have q1 := xcall_mono _ _ _ _ _ _ h1
    have q2 := xcall_mono _ _ _ _ _ _ h2
    have q3 := hbd σ2 hI
    obtain ⟨fs1, hf1⟩ := o1.2.2
    obtain ⟨fs2, hf2⟩ := o2.2.2
    refine lv_aload_n hx hb dL_law_552 rfl (lv_at hl 1 rfl) ?_
    refine lw_arg (k := 1) G hL hpt hl (List.mem_of_getElem? (i := 0) rfl) (List.mem_of_getElem? (i := 4) rfl) (by decide) (by omega) dL_law_553 dL_law_554 dL_law_556 dL_law_557 dL_law_558 ?_
    refine lv_aload_n hx hb dL_law_559 rfl (lv_at hl 3 rfl) ?_
    refine lw_callW (n := 3) (As := [.ref ax, .int (xs (i + 1)), .ref qo]) (rest := []) (wn_lie (v := v) h1 hok.1.1 hf0) rfl G hpt (by rw [hax]) (xt3 203 rfl rfl) (xt3 201 rfl rfl) (xt3 202 rfl rfl) (xt1 0 rfl rfl) (by decide +kernel) rfl (by decide) hl.1 (Nat.le_of_ble_eq_true rfl) dL_law_560 hdd (by show _ ≤ 601024; omega) (by show _ ≤ 7293034; omega) (fun H1 locs1 w1 hag hpt => ?_)
    have hax1 : w1.1 x = ax := (hag x hok.1.1).1.trans hax
    have ham1 : w1.1 mm = am := (hag mm hok.2.1).1.trans ham
    refine lv_istore (lv' := (5, .int 0) :: [(0, .ref b), (1, .ref ax), (2, .ref am), (3, .ref qo), (4, .int (nI i))]) hx hb dL_law_563 hl (by decide) rfl (fun ls1 hl => ?_)
    refine lv_aload_n hx hb dL_law_565 rfl (lv_at hl 3 rfl) ?_
    refine lw_arg (k := 1) G hL hpt hl (List.mem_of_getElem? (i := 1) rfl) (List.mem_of_getElem? (i := 5) rfl) (by decide) (by omega) dL_law_566 dL_law_567 dL_law_569 dL_law_570 dL_law_571 ?_
    refine lw_callM (is := [.int (xs (i + 1))]) (rest := []) h2 G hpt ham1 o1.2.1 hf1 rfl (by decide) (xok_ints [(xs (i + 1))]) rfl (xt5 114 rfl rfl) (xt5 115 rfl rfl) (xt5 116 rfl rfl) hl.1 (Nat.le_of_ble_eq_true rfl) dL_law_572 hdd (by show _ ≤ 601024; omega) (by show _ ≤ 7293034; omega) (fun H2 locs2 w2 hag2 hpt => ?_)
    have hax2 : w2.1 x = ax := (hag2 x o1.1.1).1.trans hax1
    have ham2 : w2.1 mm = am := (hag2 mm o1.2.1).1.trans ham1
    refine lv_istore (lv' := (6, .int r) :: (5, .int 0) :: [(0, .ref b), (1, .ref ax), (2, .ref am), (3, .ref qo), (4, .int (nI i))]) hx hb dL_law_575 hl (by decide) rfl (fun ls2 hl => ?_)
    refine lv_aload_n hx hb dL_law_577 rfl (lv_at hl 4 rfl) ?_
    refine lw_callM (is := []) (rest := []) h3 G hpt ham2 o2.2.1 hf2 rfl (by decide) (xok_ints []) rfl (xt4 216 rfl rfl) (xt4 217 rfl rfl) (xt4 218 rfl rfl) hl.1 (Nat.le_of_ble_eq_true rfl) dL_law_578 hdd (by show _ ≤ 601024; omega) (by show _ ≤ 7293034; omega) (fun H3 locs3 w3 hag3 hpt => ?_)
    have hax3 : w3.1 x = ax := (hag3 x o2.1.1).1.trans hax2
    have ham3 : w3.1 mm = am := (hag3 mm o2.2.1).1.trans ham2
    refine lv_iload hx hb dL_law_581 (lv_at hl 1 rfl) ?_
    refine lv_icmp_eq (tgt := 588) hx hb dL_law_583 (by decide) (fun _ => ?_) (fun hne => absurd rfl hne)
    refine lv_iload hx hb dL_law_588 (lv_at hl 1 rfl) ?_
    refine lv_if_ne (tgt := 612) hx hb dL_law_590 (by decide) (fun hne => absurd rfl hne) (fun _ => ?_)
    refine lv_aload_n hx hb dL_law_593 rfl (lv_at hl 5 rfl) ?_
    refine lv_iconst (v := 0) hx hb dL_law_594 (by decide) ?_
    refine lw_laload G hpt dL_law_595 ?_
    rw [pk_uLs]
    refine lv_iload hx hb dL_law_596 (lv_at hl 0 rfl) ?_
    refine lv_if_eq (tgt := 605) hx hb dL_law_598 (by decide) (fun hc0 => ?_) (fun hc0 => ?_)
    · rw [if_pos hc0]
      refine lv_lconst (v := 0) hx hb dL_law_605 (by decide) ?_
      refine W.lcmp hx hb dL_law_606 ?_
      rw [lg_cmp_self]
      refine lv_if_eq (tgt := 612) hx hb dL_law_607 (by decide) (fun _ => ?_) (fun hne => absurd rfl hne)
      refine lv_goto (tgt := 1247) hx hb dL_law_612 (by decide) ?_
      exact lw_num (by omega) (by omega) (hk σ2 w3 _ H3 locs3 _ t hI hax3 ham3 hpt (lv_sub hl [2, 3, 4, 5, 6] rfl) (by omega))
    · rw [if_neg hc0]
      refine lv_lconst (v := 1) hx hb dL_law_601 (by decide) ?_
      refine lv_goto (tgt := 606) hx hb dL_law_602 (by decide) ?_
      refine W.lcmp hx hb dL_law_606 ?_
      rw [lg_cmp_self]
      refine lv_if_eq (tgt := 612) hx hb dL_law_607 (by decide) (fun _ => ?_) (fun hne => absurd rfl hne)
      refine lv_goto (tgt := 1247) hx hb dL_law_612 (by decide) ?_
      exact lw_num (by omega) (by omega) (hk σ2 w3 _ H3 locs3 _ t hI hax3 ham3 hpt (lv_sub hl [2, 3, 4, 5, 6] rfl) (by omega))
  · have q1 := xcallX_mono _ _ _ _ _ _ h1
    have q2 := xcall_mono _ _ _ _ _ _ h2
    have q3 := hbd σ2 hI
    obtain ⟨fs1, hf1⟩ := o1.2.2
    obtain ⟨fs2, hf2⟩ := o2.2.2
    rcases List.mem_cons.mp hek with hek | hek
    · cases hek
      refine lv_aload_n hx hb dL_law_552 rfl (lv_at hl 1 rfl) ?_
      refine lw_arg (k := 1) G hL hpt hl (List.mem_of_getElem? (i := 0) rfl) (List.mem_of_getElem? (i := 4) rfl) (by decide) (by omega) dL_law_553 dL_law_554 dL_law_556 dL_law_557 dL_law_558 ?_
      refine lv_aload_n hx hb dL_law_559 rfl (lv_at hl 3 rfl) ?_
      refine lw_callW (n := 3) (As := [.ref ax, .int (xs (i + 1)), .ref qo]) (rest := []) (wx_lie_2 (v := v) hls h1 hok.1.1 hf0) rfl G hpt (by rw [hax]) (xt3 203 rfl rfl) (xt3 201 rfl rfl) (xt3 202 rfl rfl) (xt1 0 rfl rfl) (by decide +kernel) rfl (by decide) hl.1 (Nat.le_of_ble_eq_true rfl) dL_law_560 hdd (by show _ ≤ 601024; omega) (by show _ ≤ 7293034; omega) (fun H1 locs1 w1 hag hpt => ?_)
      have hax1 : w1.1 x = ax := (hag x hok.1.1).1.trans hax
      have ham1 : w1.1 mm = am := (hag mm hok.2.1).1.trans ham
      refine lv_istore (lv' := (5, .int 1) :: [(0, .ref b), (1, .ref ax), (2, .ref am), (3, .ref qo), (4, .int (nI i))]) hx hb dL_law_563 hl (by decide) rfl (fun ls1 hl => ?_)
      refine lv_aload_n hx hb dL_law_565 rfl (lv_at hl 3 rfl) ?_
      refine lw_arg (k := 1) G hL hpt hl (List.mem_of_getElem? (i := 1) rfl) (List.mem_of_getElem? (i := 5) rfl) (by decide) (by omega) dL_law_566 dL_law_567 dL_law_569 dL_law_570 dL_law_571 ?_
      refine lw_callM (is := [.int (xs (i + 1))]) (rest := []) h2 G hpt ham1 o1.2.1 hf1 rfl (by decide) (xok_ints [(xs (i + 1))]) rfl (xt5 114 rfl rfl) (xt5 115 rfl rfl) (xt5 116 rfl rfl) hl.1 (Nat.le_of_ble_eq_true rfl) dL_law_572 hdd (by show _ ≤ 601024; omega) (by show _ ≤ 7293034; omega) (fun H2 locs2 w2 hag2 hpt => ?_)
      have hax2 : w2.1 x = ax := (hag2 x o1.1.1).1.trans hax1
      have ham2 : w2.1 mm = am := (hag2 mm o1.2.1).1.trans ham1
      refine lv_istore (lv' := (6, .int b9) :: (5, .int 1) :: [(0, .ref b), (1, .ref ax), (2, .ref am), (3, .ref qo), (4, .int (nI i))]) hx hb dL_law_575 hl (by decide) rfl (fun ls2 hl => ?_)
      refine lv_aload_n hx hb dL_law_577 rfl (lv_at hl 4 rfl) ?_
      refine lw_callM (is := []) (rest := []) h3 G hpt ham2 o2.2.1 hf2 rfl (by decide) (xok_ints []) rfl (xt4 216 rfl rfl) (xt4 217 rfl rfl) (xt4 218 rfl rfl) hl.1 (Nat.le_of_ble_eq_true rfl) dL_law_578 hdd (by show _ ≤ 601024; omega) (by show _ ≤ 7293034; omega) (fun H3 locs3 w3 hag3 hpt => ?_)
      have hax3 : w3.1 x = ax := (hag3 x o2.1.1).1.trans hax2
      have ham3 : w3.1 mm = am := (hag3 mm o2.2.1).1.trans ham2
      refine lv_iload hx hb dL_law_581 (lv_at hl 1 rfl) ?_
      refine lv_icmp_eq (tgt := 588) hx hb dL_law_583 (by decide) (fun _ => ?_) (fun hne => absurd rfl hne)
      refine lv_iload hx hb dL_law_588 (lv_at hl 1 rfl) ?_
      refine lv_if_ne (tgt := 612) hx hb dL_law_590 (by decide) (fun _ => ?_) (fun hz0 => absurd hz0 (by decide))
      refine lv_goto (tgt := 1247) hx hb dL_law_612 (by decide) ?_
      exact lw_num (by omega) (by omega) (hk σ2 w3 _ H3 locs3 _ (t + 1) hI hax3 ham3 hpt (lv_sub hl [2, 3, 4, 5, 6] rfl) (by omega))
    cases hek
set_option maxHeartbeats 2000000 in
set_option maxRecDepth 100000 in
theorem lc_certify {p : Program} {l : Launch} {e : Env} {s : State} {m : MethodId} {below : List Frame} {meth : Method} {c : Code} {Q : State → Prop} {D : va_G} {H : Heap} {locs : List Loc} {ls : Array Slot} {w : XW} {σ : XS} {qo ax am : Nat} {cL : ClassId} {v : Nat → Int64} {b L d x mm i t : Nat} {xs : Nat → Int32} {Inv : XS → Prop} (hls : l.stackTraces = false) (G : lwH p s m meth c b L xs) (hL : L ≤ 3072) (hi : i + 6 ≤ L) (hop : lwI d x mm 83 140 [.int (xs (i + 1)), .int (xs (i + 2)), .int (xs (i + 3)), .int (xs (i + 4)), .int (xs (i + 5))] [(2, 1), (1, 2), (0, 3)] Inv σ) (hok : lwOk x mm σ) (hbd : ∀ σ, Inv σ → σ.1 ≤ 2000 ∧ σ.2.1 ≤ 100000) (ht : t ≤ 3072) (hdd : d ≤ 1000) (hpt : lwPt D (lwA s) s H locs w σ qo cL v) (hax : w.1 x = ax) (ham : w.1 mm = am) (hl : lv_has ls 7 [(0, .ref b), (1, .ref ax), (2, .ref am), (3, .ref qo), (4, .int (nI i))])
    (hk : ∀ (σ' : XS) (w' : XW) (v' : Nat → Int64) (H' : Heap) (locs' : List Loc) (ls' : Array Slot) (t' : Nat), Inv σ' → w'.1 x = ax → w'.1 mm = am → lwPt D (lwA s) s H' locs' w' σ' qo cL v' → lv_has ls' 7 [(0, .ref b), (1, .ref ax), (2, .ref am), (3, .ref qo), (4, .int (nI i))] → t' ≤ t + 1 → W p l e room_1 s m #[Value.ref b] below meth c H' locs' (σ'.1 + 1 + t') (σ'.2.1 + 1 + 6 * t') Q (F0 m 1247 ls' [])) :
    W p l e room_1 s m #[Value.ref b] below meth c H locs (σ.1 + 1 + t) (σ.2.1 + 1 + 6 * t) Q (F0 m 615 ls []) := by
  obtain ⟨⟨hx, hb, hr, hml, hown, hts0, hX, hbl, hlocks, hgv⟩, hts, htn, hz, hnc⟩ := id G
  obtain ⟨fs0, hf0⟩ := hok.1.2
  rcases hop with ⟨N1, N2, N3, r, σ1, σ2, h1, o1, h2, o2, h3, hI⟩ | ⟨N1, N2, N3, E, k, b9, σ1, σ2, h1, hek, o1, h2, o2, h3, hI⟩
  · have q1 := xcall_mono _ _ _ _ _ _ h1
    have q2 := xcall_mono _ _ _ _ _ _ h2
    have q3 := hbd σ2 hI
    obtain ⟨fs1, hf1⟩ := o1.2.2
    obtain ⟨fs2, hf2⟩ := o2.2.2
    refine lv_aload_n hx hb dL_law_615 rfl (lv_at hl 1 rfl) ?_
    refine lw_arg (k := 1) G hL hpt hl (List.mem_of_getElem? (i := 0) rfl) (List.mem_of_getElem? (i := 4) rfl) (by decide) (by omega) dL_law_616 dL_law_617 dL_law_619 dL_law_620 dL_law_621 ?_
    refine lw_arg (k := 2) G hL hpt hl (List.mem_of_getElem? (i := 0) rfl) (List.mem_of_getElem? (i := 4) rfl) (by decide) (by omega) dL_law_622 dL_law_623 dL_law_625 dL_law_626 dL_law_627 ?_
    refine lw_arg (k := 3) G hL hpt hl (List.mem_of_getElem? (i := 0) rfl) (List.mem_of_getElem? (i := 4) rfl) (by decide) (by omega) dL_law_628 dL_law_629 dL_law_631 dL_law_632 dL_law_633 ?_
    refine lw_arg (k := 4) G hL hpt hl (List.mem_of_getElem? (i := 0) rfl) (List.mem_of_getElem? (i := 4) rfl) (by decide) (by omega) dL_law_634 dL_law_635 dL_law_637 dL_law_638 dL_law_639 ?_
    refine lw_arg (k := 5) G hL hpt hl (List.mem_of_getElem? (i := 0) rfl) (List.mem_of_getElem? (i := 4) rfl) (by decide) (by omega) dL_law_640 dL_law_641 dL_law_643 dL_law_644 dL_law_645 ?_
    refine lv_aload_n hx hb dL_law_646 rfl (lv_at hl 3 rfl) ?_
    refine lw_callW (n := 7) (As := [.ref ax, .int (xs (i + 1)), .int (xs (i + 2)), .int (xs (i + 3)), .int (xs (i + 4)), .int (xs (i + 5)), .ref qo]) (rest := []) (wn_certify (v := v) h1 hok.1.1 hf0) rfl G hpt (by rw [hax]) (xt3 214 rfl rfl) (xt3 212 rfl rfl) (xt3 213 rfl rfl) (xt1 0 rfl rfl) (by decide +kernel) rfl (by decide) hl.1 (Nat.le_of_ble_eq_true rfl) dL_law_647 hdd (by show _ ≤ 601024; omega) (by show _ ≤ 7293034; omega) (fun H1 locs1 w1 hag hpt => ?_)
    have hax1 : w1.1 x = ax := (hag x hok.1.1).1.trans hax
    have ham1 : w1.1 mm = am := (hag mm hok.2.1).1.trans ham
    refine lv_istore (lv' := (5, .int 0) :: [(0, .ref b), (1, .ref ax), (2, .ref am), (3, .ref qo), (4, .int (nI i))]) hx hb dL_law_650 hl (by decide) rfl (fun ls1 hl => ?_)
    refine lv_aload_n hx hb dL_law_652 rfl (lv_at hl 3 rfl) ?_
    refine lw_arg (k := 1) G hL hpt hl (List.mem_of_getElem? (i := 1) rfl) (List.mem_of_getElem? (i := 5) rfl) (by decide) (by omega) dL_law_653 dL_law_654 dL_law_656 dL_law_657 dL_law_658 ?_
    refine lw_arg (k := 2) G hL hpt hl (List.mem_of_getElem? (i := 1) rfl) (List.mem_of_getElem? (i := 5) rfl) (by decide) (by omega) dL_law_659 dL_law_660 dL_law_662 dL_law_663 dL_law_664 ?_
    refine lw_arg (k := 3) G hL hpt hl (List.mem_of_getElem? (i := 1) rfl) (List.mem_of_getElem? (i := 5) rfl) (by decide) (by omega) dL_law_665 dL_law_666 dL_law_668 dL_law_669 dL_law_670 ?_
    refine lw_arg (k := 4) G hL hpt hl (List.mem_of_getElem? (i := 1) rfl) (List.mem_of_getElem? (i := 5) rfl) (by decide) (by omega) dL_law_671 dL_law_672 dL_law_674 dL_law_675 dL_law_676 ?_
    refine lw_arg (k := 5) G hL hpt hl (List.mem_of_getElem? (i := 1) rfl) (List.mem_of_getElem? (i := 5) rfl) (by decide) (by omega) dL_law_677 dL_law_678 dL_law_680 dL_law_681 dL_law_682 ?_
    refine lw_callM (is := [.int (xs (i + 1)), .int (xs (i + 2)), .int (xs (i + 3)), .int (xs (i + 4)), .int (xs (i + 5))]) (rest := []) h2 G hpt ham1 o1.2.1 hf1 rfl (by decide) (xok_ints [(xs (i + 1)), (xs (i + 2)), (xs (i + 3)), (xs (i + 4)), (xs (i + 5))]) rfl (xt5 118 rfl rfl) (xt5 119 rfl rfl) (xt5 120 rfl rfl) hl.1 (Nat.le_of_ble_eq_true rfl) dL_law_683 hdd (by show _ ≤ 601024; omega) (by show _ ≤ 7293034; omega) (fun H2 locs2 w2 hag2 hpt => ?_)
    have hax2 : w2.1 x = ax := (hag2 x o1.1.1).1.trans hax1
    have ham2 : w2.1 mm = am := (hag2 mm o1.2.1).1.trans ham1
    refine lv_istore (lv' := (6, .int r) :: (5, .int 0) :: [(0, .ref b), (1, .ref ax), (2, .ref am), (3, .ref qo), (4, .int (nI i))]) hx hb dL_law_686 hl (by decide) rfl (fun ls2 hl => ?_)
    refine lv_aload_n hx hb dL_law_688 rfl (lv_at hl 4 rfl) ?_
    refine lw_callM (is := []) (rest := []) h3 G hpt ham2 o2.2.1 hf2 rfl (by decide) (xok_ints []) rfl (xt4 216 rfl rfl) (xt4 217 rfl rfl) (xt4 218 rfl rfl) hl.1 (Nat.le_of_ble_eq_true rfl) dL_law_689 hdd (by show _ ≤ 601024; omega) (by show _ ≤ 7293034; omega) (fun H3 locs3 w3 hag3 hpt => ?_)
    have hax3 : w3.1 x = ax := (hag3 x o2.1.1).1.trans hax2
    have ham3 : w3.1 mm = am := (hag3 mm o2.2.1).1.trans ham2
    refine lv_iload hx hb dL_law_692 (lv_at hl 1 rfl) ?_
    refine lv_icmp_eq (tgt := 699) hx hb dL_law_694 (by decide) (fun _ => ?_) (fun hne => absurd rfl hne)
    refine lv_iload hx hb dL_law_699 (lv_at hl 1 rfl) ?_
    refine lv_if_ne (tgt := 716) hx hb dL_law_701 (by decide) (fun hne => absurd rfl hne) (fun _ => ?_)
    refine lv_aload_n hx hb dL_law_704 rfl (lv_at hl 5 rfl) ?_
    refine lv_iconst (v := 0) hx hb dL_law_705 (by decide) ?_
    refine lw_laload G hpt dL_law_706 ?_
    rw [pk_uLs]
    refine lv_iload hx hb dL_law_707 (lv_at hl 0 rfl) ?_
    refine lv_i2l hx hb dL_law_709 rfl ?_
    refine W.lcmp hx hb dL_law_710 ?_
    rw [lg_cmp_self]
    refine lv_if_eq (tgt := 716) hx hb dL_law_711 (by decide) (fun _ => ?_) (fun hne => absurd rfl hne)
    refine lv_goto (tgt := 1247) hx hb dL_law_716 (by decide) ?_
    exact lw_num (by omega) (by omega) (hk σ2 w3 _ H3 locs3 _ t hI hax3 ham3 hpt (lv_sub hl [2, 3, 4, 5, 6] rfl) (by omega))
  · have q1 := xcallX_mono _ _ _ _ _ _ h1
    have q2 := xcall_mono _ _ _ _ _ _ h2
    have q3 := hbd σ2 hI
    obtain ⟨fs1, hf1⟩ := o1.2.2
    obtain ⟨fs2, hf2⟩ := o2.2.2
    rcases List.mem_cons.mp hek with hek | hek
    · cases hek
      refine lv_aload_n hx hb dL_law_615 rfl (lv_at hl 1 rfl) ?_
      refine lw_arg (k := 1) G hL hpt hl (List.mem_of_getElem? (i := 0) rfl) (List.mem_of_getElem? (i := 4) rfl) (by decide) (by omega) dL_law_616 dL_law_617 dL_law_619 dL_law_620 dL_law_621 ?_
      refine lw_arg (k := 2) G hL hpt hl (List.mem_of_getElem? (i := 0) rfl) (List.mem_of_getElem? (i := 4) rfl) (by decide) (by omega) dL_law_622 dL_law_623 dL_law_625 dL_law_626 dL_law_627 ?_
      refine lw_arg (k := 3) G hL hpt hl (List.mem_of_getElem? (i := 0) rfl) (List.mem_of_getElem? (i := 4) rfl) (by decide) (by omega) dL_law_628 dL_law_629 dL_law_631 dL_law_632 dL_law_633 ?_
      refine lw_arg (k := 4) G hL hpt hl (List.mem_of_getElem? (i := 0) rfl) (List.mem_of_getElem? (i := 4) rfl) (by decide) (by omega) dL_law_634 dL_law_635 dL_law_637 dL_law_638 dL_law_639 ?_
      refine lw_arg (k := 5) G hL hpt hl (List.mem_of_getElem? (i := 0) rfl) (List.mem_of_getElem? (i := 4) rfl) (by decide) (by omega) dL_law_640 dL_law_641 dL_law_643 dL_law_644 dL_law_645 ?_
      refine lv_aload_n hx hb dL_law_646 rfl (lv_at hl 3 rfl) ?_
      refine lw_callW (n := 7) (As := [.ref ax, .int (xs (i + 1)), .int (xs (i + 2)), .int (xs (i + 3)), .int (xs (i + 4)), .int (xs (i + 5)), .ref qo]) (rest := []) (wx_certify_2 (v := v) hls h1 hok.1.1 hf0) rfl G hpt (by rw [hax]) (xt3 214 rfl rfl) (xt3 212 rfl rfl) (xt3 213 rfl rfl) (xt1 0 rfl rfl) (by decide +kernel) rfl (by decide) hl.1 (Nat.le_of_ble_eq_true rfl) dL_law_647 hdd (by show _ ≤ 601024; omega) (by show _ ≤ 7293034; omega) (fun H1 locs1 w1 hag hpt => ?_)
      have hax1 : w1.1 x = ax := (hag x hok.1.1).1.trans hax
      have ham1 : w1.1 mm = am := (hag mm hok.2.1).1.trans ham
      refine lv_istore (lv' := (5, .int 1) :: [(0, .ref b), (1, .ref ax), (2, .ref am), (3, .ref qo), (4, .int (nI i))]) hx hb dL_law_650 hl (by decide) rfl (fun ls1 hl => ?_)
      refine lv_aload_n hx hb dL_law_652 rfl (lv_at hl 3 rfl) ?_
      refine lw_arg (k := 1) G hL hpt hl (List.mem_of_getElem? (i := 1) rfl) (List.mem_of_getElem? (i := 5) rfl) (by decide) (by omega) dL_law_653 dL_law_654 dL_law_656 dL_law_657 dL_law_658 ?_
      refine lw_arg (k := 2) G hL hpt hl (List.mem_of_getElem? (i := 1) rfl) (List.mem_of_getElem? (i := 5) rfl) (by decide) (by omega) dL_law_659 dL_law_660 dL_law_662 dL_law_663 dL_law_664 ?_
      refine lw_arg (k := 3) G hL hpt hl (List.mem_of_getElem? (i := 1) rfl) (List.mem_of_getElem? (i := 5) rfl) (by decide) (by omega) dL_law_665 dL_law_666 dL_law_668 dL_law_669 dL_law_670 ?_
      refine lw_arg (k := 4) G hL hpt hl (List.mem_of_getElem? (i := 1) rfl) (List.mem_of_getElem? (i := 5) rfl) (by decide) (by omega) dL_law_671 dL_law_672 dL_law_674 dL_law_675 dL_law_676 ?_
      refine lw_arg (k := 5) G hL hpt hl (List.mem_of_getElem? (i := 1) rfl) (List.mem_of_getElem? (i := 5) rfl) (by decide) (by omega) dL_law_677 dL_law_678 dL_law_680 dL_law_681 dL_law_682 ?_
      refine lw_callM (is := [.int (xs (i + 1)), .int (xs (i + 2)), .int (xs (i + 3)), .int (xs (i + 4)), .int (xs (i + 5))]) (rest := []) h2 G hpt ham1 o1.2.1 hf1 rfl (by decide) (xok_ints [(xs (i + 1)), (xs (i + 2)), (xs (i + 3)), (xs (i + 4)), (xs (i + 5))]) rfl (xt5 118 rfl rfl) (xt5 119 rfl rfl) (xt5 120 rfl rfl) hl.1 (Nat.le_of_ble_eq_true rfl) dL_law_683 hdd (by show _ ≤ 601024; omega) (by show _ ≤ 7293034; omega) (fun H2 locs2 w2 hag2 hpt => ?_)
      have hax2 : w2.1 x = ax := (hag2 x o1.1.1).1.trans hax1
      have ham2 : w2.1 mm = am := (hag2 mm o1.2.1).1.trans ham1
      refine lv_istore (lv' := (6, .int b9) :: (5, .int 1) :: [(0, .ref b), (1, .ref ax), (2, .ref am), (3, .ref qo), (4, .int (nI i))]) hx hb dL_law_686 hl (by decide) rfl (fun ls2 hl => ?_)
      refine lv_aload_n hx hb dL_law_688 rfl (lv_at hl 4 rfl) ?_
      refine lw_callM (is := []) (rest := []) h3 G hpt ham2 o2.2.1 hf2 rfl (by decide) (xok_ints []) rfl (xt4 216 rfl rfl) (xt4 217 rfl rfl) (xt4 218 rfl rfl) hl.1 (Nat.le_of_ble_eq_true rfl) dL_law_689 hdd (by show _ ≤ 601024; omega) (by show _ ≤ 7293034; omega) (fun H3 locs3 w3 hag3 hpt => ?_)
      have hax3 : w3.1 x = ax := (hag3 x o2.1.1).1.trans hax2
      have ham3 : w3.1 mm = am := (hag3 mm o2.2.1).1.trans ham2
      refine lv_iload hx hb dL_law_692 (lv_at hl 1 rfl) ?_
      refine lv_icmp_eq (tgt := 699) hx hb dL_law_694 (by decide) (fun _ => ?_) (fun hne => absurd rfl hne)
      refine lv_iload hx hb dL_law_699 (lv_at hl 1 rfl) ?_
      refine lv_if_ne (tgt := 716) hx hb dL_law_701 (by decide) (fun _ => ?_) (fun hz0 => absurd hz0 (by decide))
      refine lv_goto (tgt := 1247) hx hb dL_law_716 (by decide) ?_
      exact lw_num (by omega) (by omega) (hk σ2 w3 _ H3 locs3 _ (t + 1) hI hax3 ham3 hpt (lv_sub hl [2, 3, 4, 5, 6] rfl) (by omega))
    rcases List.mem_cons.mp hek with hek | hek
    · cases hek
      refine lv_aload_n hx hb dL_law_615 rfl (lv_at hl 1 rfl) ?_
      refine lw_arg (k := 1) G hL hpt hl (List.mem_of_getElem? (i := 0) rfl) (List.mem_of_getElem? (i := 4) rfl) (by decide) (by omega) dL_law_616 dL_law_617 dL_law_619 dL_law_620 dL_law_621 ?_
      refine lw_arg (k := 2) G hL hpt hl (List.mem_of_getElem? (i := 0) rfl) (List.mem_of_getElem? (i := 4) rfl) (by decide) (by omega) dL_law_622 dL_law_623 dL_law_625 dL_law_626 dL_law_627 ?_
      refine lw_arg (k := 3) G hL hpt hl (List.mem_of_getElem? (i := 0) rfl) (List.mem_of_getElem? (i := 4) rfl) (by decide) (by omega) dL_law_628 dL_law_629 dL_law_631 dL_law_632 dL_law_633 ?_
      refine lw_arg (k := 4) G hL hpt hl (List.mem_of_getElem? (i := 0) rfl) (List.mem_of_getElem? (i := 4) rfl) (by decide) (by omega) dL_law_634 dL_law_635 dL_law_637 dL_law_638 dL_law_639 ?_
      refine lw_arg (k := 5) G hL hpt hl (List.mem_of_getElem? (i := 0) rfl) (List.mem_of_getElem? (i := 4) rfl) (by decide) (by omega) dL_law_640 dL_law_641 dL_law_643 dL_law_644 dL_law_645 ?_
      refine lv_aload_n hx hb dL_law_646 rfl (lv_at hl 3 rfl) ?_
      refine lw_callW (n := 7) (As := [.ref ax, .int (xs (i + 1)), .int (xs (i + 2)), .int (xs (i + 3)), .int (xs (i + 4)), .int (xs (i + 5)), .ref qo]) (rest := []) (wx_certify_1 (v := v) hls h1 hok.1.1 hf0) rfl G hpt (by rw [hax]) (xt3 214 rfl rfl) (xt3 212 rfl rfl) (xt3 213 rfl rfl) (xt1 0 rfl rfl) (by decide +kernel) rfl (by decide) hl.1 (Nat.le_of_ble_eq_true rfl) dL_law_647 hdd (by show _ ≤ 601024; omega) (by show _ ≤ 7293034; omega) (fun H1 locs1 w1 hag hpt => ?_)
      have hax1 : w1.1 x = ax := (hag x hok.1.1).1.trans hax
      have ham1 : w1.1 mm = am := (hag mm hok.2.1).1.trans ham
      refine lv_istore (lv' := (5, .int 2) :: [(0, .ref b), (1, .ref ax), (2, .ref am), (3, .ref qo), (4, .int (nI i))]) hx hb dL_law_650 hl (by decide) rfl (fun ls1 hl => ?_)
      refine lv_aload_n hx hb dL_law_652 rfl (lv_at hl 3 rfl) ?_
      refine lw_arg (k := 1) G hL hpt hl (List.mem_of_getElem? (i := 1) rfl) (List.mem_of_getElem? (i := 5) rfl) (by decide) (by omega) dL_law_653 dL_law_654 dL_law_656 dL_law_657 dL_law_658 ?_
      refine lw_arg (k := 2) G hL hpt hl (List.mem_of_getElem? (i := 1) rfl) (List.mem_of_getElem? (i := 5) rfl) (by decide) (by omega) dL_law_659 dL_law_660 dL_law_662 dL_law_663 dL_law_664 ?_
      refine lw_arg (k := 3) G hL hpt hl (List.mem_of_getElem? (i := 1) rfl) (List.mem_of_getElem? (i := 5) rfl) (by decide) (by omega) dL_law_665 dL_law_666 dL_law_668 dL_law_669 dL_law_670 ?_
      refine lw_arg (k := 4) G hL hpt hl (List.mem_of_getElem? (i := 1) rfl) (List.mem_of_getElem? (i := 5) rfl) (by decide) (by omega) dL_law_671 dL_law_672 dL_law_674 dL_law_675 dL_law_676 ?_
      refine lw_arg (k := 5) G hL hpt hl (List.mem_of_getElem? (i := 1) rfl) (List.mem_of_getElem? (i := 5) rfl) (by decide) (by omega) dL_law_677 dL_law_678 dL_law_680 dL_law_681 dL_law_682 ?_
      refine lw_callM (is := [.int (xs (i + 1)), .int (xs (i + 2)), .int (xs (i + 3)), .int (xs (i + 4)), .int (xs (i + 5))]) (rest := []) h2 G hpt ham1 o1.2.1 hf1 rfl (by decide) (xok_ints [(xs (i + 1)), (xs (i + 2)), (xs (i + 3)), (xs (i + 4)), (xs (i + 5))]) rfl (xt5 118 rfl rfl) (xt5 119 rfl rfl) (xt5 120 rfl rfl) hl.1 (Nat.le_of_ble_eq_true rfl) dL_law_683 hdd (by show _ ≤ 601024; omega) (by show _ ≤ 7293034; omega) (fun H2 locs2 w2 hag2 hpt => ?_)
      have hax2 : w2.1 x = ax := (hag2 x o1.1.1).1.trans hax1
      have ham2 : w2.1 mm = am := (hag2 mm o1.2.1).1.trans ham1
      refine lv_istore (lv' := (6, .int b9) :: (5, .int 2) :: [(0, .ref b), (1, .ref ax), (2, .ref am), (3, .ref qo), (4, .int (nI i))]) hx hb dL_law_686 hl (by decide) rfl (fun ls2 hl => ?_)
      refine lv_aload_n hx hb dL_law_688 rfl (lv_at hl 4 rfl) ?_
      refine lw_callM (is := []) (rest := []) h3 G hpt ham2 o2.2.1 hf2 rfl (by decide) (xok_ints []) rfl (xt4 216 rfl rfl) (xt4 217 rfl rfl) (xt4 218 rfl rfl) hl.1 (Nat.le_of_ble_eq_true rfl) dL_law_689 hdd (by show _ ≤ 601024; omega) (by show _ ≤ 7293034; omega) (fun H3 locs3 w3 hag3 hpt => ?_)
      have hax3 : w3.1 x = ax := (hag3 x o2.1.1).1.trans hax2
      have ham3 : w3.1 mm = am := (hag3 mm o2.2.1).1.trans ham2
      refine lv_iload hx hb dL_law_692 (lv_at hl 1 rfl) ?_
      refine lv_icmp_eq (tgt := 699) hx hb dL_law_694 (by decide) (fun _ => ?_) (fun hne => absurd rfl hne)
      refine lv_iload hx hb dL_law_699 (lv_at hl 1 rfl) ?_
      refine lv_if_ne (tgt := 716) hx hb dL_law_701 (by decide) (fun _ => ?_) (fun hz0 => absurd hz0 (by decide))
      refine lv_goto (tgt := 1247) hx hb dL_law_716 (by decide) ?_
      exact lw_num (by omega) (by omega) (hk σ2 w3 _ H3 locs3 _ (t + 1) hI hax3 ham3 hpt (lv_sub hl [2, 3, 4, 5, 6] rfl) (by omega))
    rcases List.mem_cons.mp hek with hek | hek
    · cases hek
      refine lv_aload_n hx hb dL_law_615 rfl (lv_at hl 1 rfl) ?_
      refine lw_arg (k := 1) G hL hpt hl (List.mem_of_getElem? (i := 0) rfl) (List.mem_of_getElem? (i := 4) rfl) (by decide) (by omega) dL_law_616 dL_law_617 dL_law_619 dL_law_620 dL_law_621 ?_
      refine lw_arg (k := 2) G hL hpt hl (List.mem_of_getElem? (i := 0) rfl) (List.mem_of_getElem? (i := 4) rfl) (by decide) (by omega) dL_law_622 dL_law_623 dL_law_625 dL_law_626 dL_law_627 ?_
      refine lw_arg (k := 3) G hL hpt hl (List.mem_of_getElem? (i := 0) rfl) (List.mem_of_getElem? (i := 4) rfl) (by decide) (by omega) dL_law_628 dL_law_629 dL_law_631 dL_law_632 dL_law_633 ?_
      refine lw_arg (k := 4) G hL hpt hl (List.mem_of_getElem? (i := 0) rfl) (List.mem_of_getElem? (i := 4) rfl) (by decide) (by omega) dL_law_634 dL_law_635 dL_law_637 dL_law_638 dL_law_639 ?_
      refine lw_arg (k := 5) G hL hpt hl (List.mem_of_getElem? (i := 0) rfl) (List.mem_of_getElem? (i := 4) rfl) (by decide) (by omega) dL_law_640 dL_law_641 dL_law_643 dL_law_644 dL_law_645 ?_
      refine lv_aload_n hx hb dL_law_646 rfl (lv_at hl 3 rfl) ?_
      refine lw_callW (n := 7) (As := [.ref ax, .int (xs (i + 1)), .int (xs (i + 2)), .int (xs (i + 3)), .int (xs (i + 4)), .int (xs (i + 5)), .ref qo]) (rest := []) (wx_certify_0 (v := v) hls h1 hok.1.1 hf0) rfl G hpt (by rw [hax]) (xt3 214 rfl rfl) (xt3 212 rfl rfl) (xt3 213 rfl rfl) (xt1 0 rfl rfl) (by decide +kernel) rfl (by decide) hl.1 (Nat.le_of_ble_eq_true rfl) dL_law_647 hdd (by show _ ≤ 601024; omega) (by show _ ≤ 7293034; omega) (fun H1 locs1 w1 hag hpt => ?_)
      have hax1 : w1.1 x = ax := (hag x hok.1.1).1.trans hax
      have ham1 : w1.1 mm = am := (hag mm hok.2.1).1.trans ham
      refine lv_istore (lv' := (5, .int 3) :: [(0, .ref b), (1, .ref ax), (2, .ref am), (3, .ref qo), (4, .int (nI i))]) hx hb dL_law_650 hl (by decide) rfl (fun ls1 hl => ?_)
      refine lv_aload_n hx hb dL_law_652 rfl (lv_at hl 3 rfl) ?_
      refine lw_arg (k := 1) G hL hpt hl (List.mem_of_getElem? (i := 1) rfl) (List.mem_of_getElem? (i := 5) rfl) (by decide) (by omega) dL_law_653 dL_law_654 dL_law_656 dL_law_657 dL_law_658 ?_
      refine lw_arg (k := 2) G hL hpt hl (List.mem_of_getElem? (i := 1) rfl) (List.mem_of_getElem? (i := 5) rfl) (by decide) (by omega) dL_law_659 dL_law_660 dL_law_662 dL_law_663 dL_law_664 ?_
      refine lw_arg (k := 3) G hL hpt hl (List.mem_of_getElem? (i := 1) rfl) (List.mem_of_getElem? (i := 5) rfl) (by decide) (by omega) dL_law_665 dL_law_666 dL_law_668 dL_law_669 dL_law_670 ?_
      refine lw_arg (k := 4) G hL hpt hl (List.mem_of_getElem? (i := 1) rfl) (List.mem_of_getElem? (i := 5) rfl) (by decide) (by omega) dL_law_671 dL_law_672 dL_law_674 dL_law_675 dL_law_676 ?_
      refine lw_arg (k := 5) G hL hpt hl (List.mem_of_getElem? (i := 1) rfl) (List.mem_of_getElem? (i := 5) rfl) (by decide) (by omega) dL_law_677 dL_law_678 dL_law_680 dL_law_681 dL_law_682 ?_
      refine lw_callM (is := [.int (xs (i + 1)), .int (xs (i + 2)), .int (xs (i + 3)), .int (xs (i + 4)), .int (xs (i + 5))]) (rest := []) h2 G hpt ham1 o1.2.1 hf1 rfl (by decide) (xok_ints [(xs (i + 1)), (xs (i + 2)), (xs (i + 3)), (xs (i + 4)), (xs (i + 5))]) rfl (xt5 118 rfl rfl) (xt5 119 rfl rfl) (xt5 120 rfl rfl) hl.1 (Nat.le_of_ble_eq_true rfl) dL_law_683 hdd (by show _ ≤ 601024; omega) (by show _ ≤ 7293034; omega) (fun H2 locs2 w2 hag2 hpt => ?_)
      have hax2 : w2.1 x = ax := (hag2 x o1.1.1).1.trans hax1
      have ham2 : w2.1 mm = am := (hag2 mm o1.2.1).1.trans ham1
      refine lv_istore (lv' := (6, .int b9) :: (5, .int 3) :: [(0, .ref b), (1, .ref ax), (2, .ref am), (3, .ref qo), (4, .int (nI i))]) hx hb dL_law_686 hl (by decide) rfl (fun ls2 hl => ?_)
      refine lv_aload_n hx hb dL_law_688 rfl (lv_at hl 4 rfl) ?_
      refine lw_callM (is := []) (rest := []) h3 G hpt ham2 o2.2.1 hf2 rfl (by decide) (xok_ints []) rfl (xt4 216 rfl rfl) (xt4 217 rfl rfl) (xt4 218 rfl rfl) hl.1 (Nat.le_of_ble_eq_true rfl) dL_law_689 hdd (by show _ ≤ 601024; omega) (by show _ ≤ 7293034; omega) (fun H3 locs3 w3 hag3 hpt => ?_)
      have hax3 : w3.1 x = ax := (hag3 x o2.1.1).1.trans hax2
      have ham3 : w3.1 mm = am := (hag3 mm o2.2.1).1.trans ham2
      refine lv_iload hx hb dL_law_692 (lv_at hl 1 rfl) ?_
      refine lv_icmp_eq (tgt := 699) hx hb dL_law_694 (by decide) (fun _ => ?_) (fun hne => absurd rfl hne)
      refine lv_iload hx hb dL_law_699 (lv_at hl 1 rfl) ?_
      refine lv_if_ne (tgt := 716) hx hb dL_law_701 (by decide) (fun _ => ?_) (fun hz0 => absurd hz0 (by decide))
      refine lv_goto (tgt := 1247) hx hb dL_law_716 (by decide) ?_
      exact lw_num (by omega) (by omega) (hk σ2 w3 _ H3 locs3 _ (t + 1) hI hax3 ham3 hpt (lv_sub hl [2, 3, 4, 5, 6] rfl) (by omega))
    cases hek
set_option maxHeartbeats 2000000 in
set_option maxRecDepth 100000 in
theorem lc_askFor {p : Program} {l : Launch} {e : Env} {s : State} {m : MethodId} {below : List Frame} {meth : Method} {c : Code} {Q : State → Prop} {D : va_G} {H : Heap} {locs : List Loc} {ls : Array Slot} {w : XW} {σ : XS} {qo ax am : Nat} {cL : ClassId} {v : Nat → Int64} {b L d x mm i t : Nat} {xs : Nat → Int32} {Inv : XS → Prop} (hls : l.stackTraces = false) (G : lwH p s m meth c b L xs) (hL : L ≤ 3072) (hi : i + 6 ≤ L) (hop : lwV d x mm 84 141 [.int (xs (i + 1)), .int (xs (i + 2))] [(2, 1), (1, 2), (0, 3)] Inv σ) (hok : lwOk x mm σ) (hbd : ∀ σ, Inv σ → σ.1 ≤ 2000 ∧ σ.2.1 ≤ 100000) (ht : t ≤ 3072) (hdd : d ≤ 1000) (hpt : lwPt D (lwA s) s H locs w σ qo cL v) (hax : w.1 x = ax) (ham : w.1 mm = am) (hl : lv_has ls 7 [(0, .ref b), (1, .ref ax), (2, .ref am), (3, .ref qo), (4, .int (nI i))])
    (hk : ∀ (σ' : XS) (w' : XW) (v' : Nat → Int64) (H' : Heap) (locs' : List Loc) (ls' : Array Slot) (t' : Nat), Inv σ' → w'.1 x = ax → w'.1 mm = am → lwPt D (lwA s) s H' locs' w' σ' qo cL v' → lv_has ls' 7 [(0, .ref b), (1, .ref ax), (2, .ref am), (3, .ref qo), (4, .int (nI i))] → t' ≤ t + 1 → W p l e room_1 s m #[Value.ref b] below meth c H' locs' (σ'.1 + 1 + t') (σ'.2.1 + 1 + 6 * t') Q (F0 m 1247 ls' [])) :
    W p l e room_1 s m #[Value.ref b] below meth c H locs (σ.1 + 1 + t) (σ.2.1 + 1 + 6 * t) Q (F0 m 719 ls []) := by
  obtain ⟨⟨hx, hb, hr, hml, hown, hts0, hX, hbl, hlocks, hgv⟩, hts, htn, hz, hnc⟩ := id G
  obtain ⟨fs0, hf0⟩ := hok.1.2
  rcases hop with ⟨N1, N2, N3, σ1, σ2, h1, o1, h2, o2, h3, hI⟩ | ⟨N1, N2, N3, E, k, σ1, σ2, h1, hek, o1, h2, o2, h3, hI⟩
  · have q1 := xcall_mono _ _ _ _ _ _ h1
    have q2 := xcall_mono _ _ _ _ _ _ h2
    have q3 := hbd σ2 hI
    obtain ⟨fs1, hf1⟩ := o1.2.2
    obtain ⟨fs2, hf2⟩ := o2.2.2
    refine lv_aload_n hx hb dL_law_719 rfl (lv_at hl 1 rfl) ?_
    refine lw_arg (k := 1) G hL hpt hl (List.mem_of_getElem? (i := 0) rfl) (List.mem_of_getElem? (i := 4) rfl) (by decide) (by omega) dL_law_720 dL_law_721 dL_law_723 dL_law_724 dL_law_725 ?_
    refine lw_arg (k := 2) G hL hpt hl (List.mem_of_getElem? (i := 0) rfl) (List.mem_of_getElem? (i := 4) rfl) (by decide) (by omega) dL_law_726 dL_law_727 dL_law_729 dL_law_730 dL_law_731 ?_
    refine lw_callW (n := 3) (As := [.ref ax, .int (xs (i + 1)), .int (xs (i + 2))]) (rest := []) (wn_askFor (v := v) h1 hok.1.1 hf0) rfl G hpt (by rw [hax]) (xt3 237 rfl rfl) (xt3 235 rfl rfl) (xt3 236 rfl rfl) (xt1 0 rfl rfl) (by decide +kernel) rfl (by decide) hl.1 (Nat.le_of_ble_eq_true rfl) dL_law_732 hdd (by show _ ≤ 601024; omega) (by show _ ≤ 7293034; omega) (fun H1 locs1 w1 hag hpt => ?_)
    have hax1 : w1.1 x = ax := (hag x hok.1.1).1.trans hax
    have ham1 : w1.1 mm = am := (hag mm hok.2.1).1.trans ham
    refine lv_istore (lv' := (5, .int 0) :: [(0, .ref b), (1, .ref ax), (2, .ref am), (3, .ref qo), (4, .int (nI i))]) hx hb dL_law_735 hl (by decide) rfl (fun ls1 hl => ?_)
    refine lv_aload_n hx hb dL_law_737 rfl (lv_at hl 3 rfl) ?_
    refine lw_arg (k := 1) G hL hpt hl (List.mem_of_getElem? (i := 1) rfl) (List.mem_of_getElem? (i := 5) rfl) (by decide) (by omega) dL_law_738 dL_law_739 dL_law_741 dL_law_742 dL_law_743 ?_
    refine lw_arg (k := 2) G hL hpt hl (List.mem_of_getElem? (i := 1) rfl) (List.mem_of_getElem? (i := 5) rfl) (by decide) (by omega) dL_law_744 dL_law_745 dL_law_747 dL_law_748 dL_law_749 ?_
    refine lw_callM (is := [.int (xs (i + 1)), .int (xs (i + 2))]) (rest := []) h2 G hpt ham1 o1.2.1 hf1 rfl (by decide) (xok_ints [(xs (i + 1)), (xs (i + 2))]) rfl (xt5 122 rfl rfl) (xt5 123 rfl rfl) (xt5 124 rfl rfl) hl.1 (Nat.le_of_ble_eq_true rfl) dL_law_750 hdd (by show _ ≤ 601024; omega) (by show _ ≤ 7293034; omega) (fun H2 locs2 w2 hag2 hpt => ?_)
    have hax2 : w2.1 x = ax := (hag2 x o1.1.1).1.trans hax1
    have ham2 : w2.1 mm = am := (hag2 mm o1.2.1).1.trans ham1
    refine lv_aload_n hx hb dL_law_753 rfl (lv_at hl 3 rfl) ?_
    refine lw_callM (is := []) (rest := []) h3 G hpt ham2 o2.2.1 hf2 rfl (by decide) (xok_ints []) rfl (xt4 216 rfl rfl) (xt4 217 rfl rfl) (xt4 218 rfl rfl) hl.1 (Nat.le_of_ble_eq_true rfl) dL_law_754 hdd (by show _ ≤ 601024; omega) (by show _ ≤ 7293034; omega) (fun H3 locs3 w3 hag3 hpt => ?_)
    have hax3 : w3.1 x = ax := (hag3 x o2.1.1).1.trans hax2
    have ham3 : w3.1 mm = am := (hag3 mm o2.2.1).1.trans ham2
    refine lv_iload hx hb dL_law_757 (lv_at hl 0 rfl) ?_
    refine lv_icmp_eq (tgt := 764) hx hb dL_law_759 (by decide) (fun _ => ?_) (fun hne => absurd rfl hne)
    refine lv_goto (tgt := 1247) hx hb dL_law_764 (by decide) ?_
    exact lw_num (by omega) (by omega) (hk σ2 w3 _ H3 locs3 _ t hI hax3 ham3 hpt (lv_sub hl [1, 2, 3, 4, 5] rfl) (by omega))
  · have q1 := xcallX_mono _ _ _ _ _ _ h1
    have q2 := xcall_mono _ _ _ _ _ _ h2
    have q3 := hbd σ2 hI
    obtain ⟨fs1, hf1⟩ := o1.2.2
    obtain ⟨fs2, hf2⟩ := o2.2.2
    rcases List.mem_cons.mp hek with hek | hek
    · cases hek
      refine lv_aload_n hx hb dL_law_719 rfl (lv_at hl 1 rfl) ?_
      refine lw_arg (k := 1) G hL hpt hl (List.mem_of_getElem? (i := 0) rfl) (List.mem_of_getElem? (i := 4) rfl) (by decide) (by omega) dL_law_720 dL_law_721 dL_law_723 dL_law_724 dL_law_725 ?_
      refine lw_arg (k := 2) G hL hpt hl (List.mem_of_getElem? (i := 0) rfl) (List.mem_of_getElem? (i := 4) rfl) (by decide) (by omega) dL_law_726 dL_law_727 dL_law_729 dL_law_730 dL_law_731 ?_
      refine lw_callW (n := 3) (As := [.ref ax, .int (xs (i + 1)), .int (xs (i + 2))]) (rest := []) (wx_askFor_2 (v := v) hls h1 hok.1.1 hf0) rfl G hpt (by rw [hax]) (xt3 237 rfl rfl) (xt3 235 rfl rfl) (xt3 236 rfl rfl) (xt1 0 rfl rfl) (by decide +kernel) rfl (by decide) hl.1 (Nat.le_of_ble_eq_true rfl) dL_law_732 hdd (by show _ ≤ 601024; omega) (by show _ ≤ 7293034; omega) (fun H1 locs1 w1 hag hpt => ?_)
      have hax1 : w1.1 x = ax := (hag x hok.1.1).1.trans hax
      have ham1 : w1.1 mm = am := (hag mm hok.2.1).1.trans ham
      refine lv_istore (lv' := (5, .int 1) :: [(0, .ref b), (1, .ref ax), (2, .ref am), (3, .ref qo), (4, .int (nI i))]) hx hb dL_law_735 hl (by decide) rfl (fun ls1 hl => ?_)
      refine lv_aload_n hx hb dL_law_737 rfl (lv_at hl 3 rfl) ?_
      refine lw_arg (k := 1) G hL hpt hl (List.mem_of_getElem? (i := 1) rfl) (List.mem_of_getElem? (i := 5) rfl) (by decide) (by omega) dL_law_738 dL_law_739 dL_law_741 dL_law_742 dL_law_743 ?_
      refine lw_arg (k := 2) G hL hpt hl (List.mem_of_getElem? (i := 1) rfl) (List.mem_of_getElem? (i := 5) rfl) (by decide) (by omega) dL_law_744 dL_law_745 dL_law_747 dL_law_748 dL_law_749 ?_
      refine lw_callM (is := [.int (xs (i + 1)), .int (xs (i + 2))]) (rest := []) h2 G hpt ham1 o1.2.1 hf1 rfl (by decide) (xok_ints [(xs (i + 1)), (xs (i + 2))]) rfl (xt5 122 rfl rfl) (xt5 123 rfl rfl) (xt5 124 rfl rfl) hl.1 (Nat.le_of_ble_eq_true rfl) dL_law_750 hdd (by show _ ≤ 601024; omega) (by show _ ≤ 7293034; omega) (fun H2 locs2 w2 hag2 hpt => ?_)
      have hax2 : w2.1 x = ax := (hag2 x o1.1.1).1.trans hax1
      have ham2 : w2.1 mm = am := (hag2 mm o1.2.1).1.trans ham1
      refine lv_aload_n hx hb dL_law_753 rfl (lv_at hl 3 rfl) ?_
      refine lw_callM (is := []) (rest := []) h3 G hpt ham2 o2.2.1 hf2 rfl (by decide) (xok_ints []) rfl (xt4 216 rfl rfl) (xt4 217 rfl rfl) (xt4 218 rfl rfl) hl.1 (Nat.le_of_ble_eq_true rfl) dL_law_754 hdd (by show _ ≤ 601024; omega) (by show _ ≤ 7293034; omega) (fun H3 locs3 w3 hag3 hpt => ?_)
      have hax3 : w3.1 x = ax := (hag3 x o2.1.1).1.trans hax2
      have ham3 : w3.1 mm = am := (hag3 mm o2.2.1).1.trans ham2
      refine lv_iload hx hb dL_law_757 (lv_at hl 0 rfl) ?_
      refine lv_icmp_eq (tgt := 764) hx hb dL_law_759 (by decide) (fun _ => ?_) (fun hne => absurd rfl hne)
      refine lv_goto (tgt := 1247) hx hb dL_law_764 (by decide) ?_
      exact lw_num (by omega) (by omega) (hk σ2 w3 _ H3 locs3 _ (t + 1) hI hax3 ham3 hpt (lv_sub hl [1, 2, 3, 4, 5] rfl) (by omega))
    rcases List.mem_cons.mp hek with hek | hek
    · cases hek
      refine lv_aload_n hx hb dL_law_719 rfl (lv_at hl 1 rfl) ?_
      refine lw_arg (k := 1) G hL hpt hl (List.mem_of_getElem? (i := 0) rfl) (List.mem_of_getElem? (i := 4) rfl) (by decide) (by omega) dL_law_720 dL_law_721 dL_law_723 dL_law_724 dL_law_725 ?_
      refine lw_arg (k := 2) G hL hpt hl (List.mem_of_getElem? (i := 0) rfl) (List.mem_of_getElem? (i := 4) rfl) (by decide) (by omega) dL_law_726 dL_law_727 dL_law_729 dL_law_730 dL_law_731 ?_
      refine lw_callW (n := 3) (As := [.ref ax, .int (xs (i + 1)), .int (xs (i + 2))]) (rest := []) (wx_askFor_1 (v := v) hls h1 hok.1.1 hf0) rfl G hpt (by rw [hax]) (xt3 237 rfl rfl) (xt3 235 rfl rfl) (xt3 236 rfl rfl) (xt1 0 rfl rfl) (by decide +kernel) rfl (by decide) hl.1 (Nat.le_of_ble_eq_true rfl) dL_law_732 hdd (by show _ ≤ 601024; omega) (by show _ ≤ 7293034; omega) (fun H1 locs1 w1 hag hpt => ?_)
      have hax1 : w1.1 x = ax := (hag x hok.1.1).1.trans hax
      have ham1 : w1.1 mm = am := (hag mm hok.2.1).1.trans ham
      refine lv_istore (lv' := (5, .int 2) :: [(0, .ref b), (1, .ref ax), (2, .ref am), (3, .ref qo), (4, .int (nI i))]) hx hb dL_law_735 hl (by decide) rfl (fun ls1 hl => ?_)
      refine lv_aload_n hx hb dL_law_737 rfl (lv_at hl 3 rfl) ?_
      refine lw_arg (k := 1) G hL hpt hl (List.mem_of_getElem? (i := 1) rfl) (List.mem_of_getElem? (i := 5) rfl) (by decide) (by omega) dL_law_738 dL_law_739 dL_law_741 dL_law_742 dL_law_743 ?_
      refine lw_arg (k := 2) G hL hpt hl (List.mem_of_getElem? (i := 1) rfl) (List.mem_of_getElem? (i := 5) rfl) (by decide) (by omega) dL_law_744 dL_law_745 dL_law_747 dL_law_748 dL_law_749 ?_
      refine lw_callM (is := [.int (xs (i + 1)), .int (xs (i + 2))]) (rest := []) h2 G hpt ham1 o1.2.1 hf1 rfl (by decide) (xok_ints [(xs (i + 1)), (xs (i + 2))]) rfl (xt5 122 rfl rfl) (xt5 123 rfl rfl) (xt5 124 rfl rfl) hl.1 (Nat.le_of_ble_eq_true rfl) dL_law_750 hdd (by show _ ≤ 601024; omega) (by show _ ≤ 7293034; omega) (fun H2 locs2 w2 hag2 hpt => ?_)
      have hax2 : w2.1 x = ax := (hag2 x o1.1.1).1.trans hax1
      have ham2 : w2.1 mm = am := (hag2 mm o1.2.1).1.trans ham1
      refine lv_aload_n hx hb dL_law_753 rfl (lv_at hl 3 rfl) ?_
      refine lw_callM (is := []) (rest := []) h3 G hpt ham2 o2.2.1 hf2 rfl (by decide) (xok_ints []) rfl (xt4 216 rfl rfl) (xt4 217 rfl rfl) (xt4 218 rfl rfl) hl.1 (Nat.le_of_ble_eq_true rfl) dL_law_754 hdd (by show _ ≤ 601024; omega) (by show _ ≤ 7293034; omega) (fun H3 locs3 w3 hag3 hpt => ?_)
      have hax3 : w3.1 x = ax := (hag3 x o2.1.1).1.trans hax2
      have ham3 : w3.1 mm = am := (hag3 mm o2.2.1).1.trans ham2
      refine lv_iload hx hb dL_law_757 (lv_at hl 0 rfl) ?_
      refine lv_icmp_eq (tgt := 764) hx hb dL_law_759 (by decide) (fun _ => ?_) (fun hne => absurd rfl hne)
      refine lv_goto (tgt := 1247) hx hb dL_law_764 (by decide) ?_
      exact lw_num (by omega) (by omega) (hk σ2 w3 _ H3 locs3 _ (t + 1) hI hax3 ham3 hpt (lv_sub hl [1, 2, 3, 4, 5] rfl) (by omega))
    rcases List.mem_cons.mp hek with hek | hek
    · cases hek
      refine lv_aload_n hx hb dL_law_719 rfl (lv_at hl 1 rfl) ?_
      refine lw_arg (k := 1) G hL hpt hl (List.mem_of_getElem? (i := 0) rfl) (List.mem_of_getElem? (i := 4) rfl) (by decide) (by omega) dL_law_720 dL_law_721 dL_law_723 dL_law_724 dL_law_725 ?_
      refine lw_arg (k := 2) G hL hpt hl (List.mem_of_getElem? (i := 0) rfl) (List.mem_of_getElem? (i := 4) rfl) (by decide) (by omega) dL_law_726 dL_law_727 dL_law_729 dL_law_730 dL_law_731 ?_
      refine lw_callW (n := 3) (As := [.ref ax, .int (xs (i + 1)), .int (xs (i + 2))]) (rest := []) (wx_askFor_0 (v := v) hls h1 hok.1.1 hf0) rfl G hpt (by rw [hax]) (xt3 237 rfl rfl) (xt3 235 rfl rfl) (xt3 236 rfl rfl) (xt1 0 rfl rfl) (by decide +kernel) rfl (by decide) hl.1 (Nat.le_of_ble_eq_true rfl) dL_law_732 hdd (by show _ ≤ 601024; omega) (by show _ ≤ 7293034; omega) (fun H1 locs1 w1 hag hpt => ?_)
      have hax1 : w1.1 x = ax := (hag x hok.1.1).1.trans hax
      have ham1 : w1.1 mm = am := (hag mm hok.2.1).1.trans ham
      refine lv_istore (lv' := (5, .int 3) :: [(0, .ref b), (1, .ref ax), (2, .ref am), (3, .ref qo), (4, .int (nI i))]) hx hb dL_law_735 hl (by decide) rfl (fun ls1 hl => ?_)
      refine lv_aload_n hx hb dL_law_737 rfl (lv_at hl 3 rfl) ?_
      refine lw_arg (k := 1) G hL hpt hl (List.mem_of_getElem? (i := 1) rfl) (List.mem_of_getElem? (i := 5) rfl) (by decide) (by omega) dL_law_738 dL_law_739 dL_law_741 dL_law_742 dL_law_743 ?_
      refine lw_arg (k := 2) G hL hpt hl (List.mem_of_getElem? (i := 1) rfl) (List.mem_of_getElem? (i := 5) rfl) (by decide) (by omega) dL_law_744 dL_law_745 dL_law_747 dL_law_748 dL_law_749 ?_
      refine lw_callM (is := [.int (xs (i + 1)), .int (xs (i + 2))]) (rest := []) h2 G hpt ham1 o1.2.1 hf1 rfl (by decide) (xok_ints [(xs (i + 1)), (xs (i + 2))]) rfl (xt5 122 rfl rfl) (xt5 123 rfl rfl) (xt5 124 rfl rfl) hl.1 (Nat.le_of_ble_eq_true rfl) dL_law_750 hdd (by show _ ≤ 601024; omega) (by show _ ≤ 7293034; omega) (fun H2 locs2 w2 hag2 hpt => ?_)
      have hax2 : w2.1 x = ax := (hag2 x o1.1.1).1.trans hax1
      have ham2 : w2.1 mm = am := (hag2 mm o1.2.1).1.trans ham1
      refine lv_aload_n hx hb dL_law_753 rfl (lv_at hl 3 rfl) ?_
      refine lw_callM (is := []) (rest := []) h3 G hpt ham2 o2.2.1 hf2 rfl (by decide) (xok_ints []) rfl (xt4 216 rfl rfl) (xt4 217 rfl rfl) (xt4 218 rfl rfl) hl.1 (Nat.le_of_ble_eq_true rfl) dL_law_754 hdd (by show _ ≤ 601024; omega) (by show _ ≤ 7293034; omega) (fun H3 locs3 w3 hag3 hpt => ?_)
      have hax3 : w3.1 x = ax := (hag3 x o2.1.1).1.trans hax2
      have ham3 : w3.1 mm = am := (hag3 mm o2.2.1).1.trans ham2
      refine lv_iload hx hb dL_law_757 (lv_at hl 0 rfl) ?_
      refine lv_icmp_eq (tgt := 764) hx hb dL_law_759 (by decide) (fun _ => ?_) (fun hne => absurd rfl hne)
      refine lv_goto (tgt := 1247) hx hb dL_law_764 (by decide) ?_
      exact lw_num (by omega) (by omega) (hk σ2 w3 _ H3 locs3 _ (t + 1) hI hax3 ham3 hpt (lv_sub hl [1, 2, 3, 4, 5] rfl) (by omega))
    cases hek
set_option maxHeartbeats 2000000 in
set_option maxRecDepth 100000 in
theorem lc_replyWith {p : Program} {l : Launch} {e : Env} {s : State} {m : MethodId} {below : List Frame} {meth : Method} {c : Code} {Q : State → Prop} {D : va_G} {H : Heap} {locs : List Loc} {ls : Array Slot} {w : XW} {σ : XS} {qo ax am : Nat} {cL : ClassId} {v : Nat → Int64} {b L d x mm i t : Nat} {xs : Nat → Int32} {Inv : XS → Prop} (hls : l.stackTraces = false) (G : lwH p s m meth c b L xs) (hL : L ≤ 3072) (hi : i + 6 ≤ L) (hop : lwV d x mm 85 142 [.int (xs (i + 1)), .int (xs (i + 2)), .int (xs (i + 3))] [(2, 1), (1, 2)] Inv σ) (hok : lwOk x mm σ) (hbd : ∀ σ, Inv σ → σ.1 ≤ 2000 ∧ σ.2.1 ≤ 100000) (ht : t ≤ 3072) (hdd : d ≤ 1000) (hpt : lwPt D (lwA s) s H locs w σ qo cL v) (hax : w.1 x = ax) (ham : w.1 mm = am) (hl : lv_has ls 7 [(0, .ref b), (1, .ref ax), (2, .ref am), (3, .ref qo), (4, .int (nI i))])
    (hk : ∀ (σ' : XS) (w' : XW) (v' : Nat → Int64) (H' : Heap) (locs' : List Loc) (ls' : Array Slot) (t' : Nat), Inv σ' → w'.1 x = ax → w'.1 mm = am → lwPt D (lwA s) s H' locs' w' σ' qo cL v' → lv_has ls' 7 [(0, .ref b), (1, .ref ax), (2, .ref am), (3, .ref qo), (4, .int (nI i))] → t' ≤ t + 1 → W p l e room_1 s m #[Value.ref b] below meth c H' locs' (σ'.1 + 1 + t') (σ'.2.1 + 1 + 6 * t') Q (F0 m 1247 ls' [])) :
    W p l e room_1 s m #[Value.ref b] below meth c H locs (σ.1 + 1 + t) (σ.2.1 + 1 + 6 * t) Q (F0 m 767 ls []) := by
  obtain ⟨⟨hx, hb, hr, hml, hown, hts0, hX, hbl, hlocks, hgv⟩, hts, htn, hz, hnc⟩ := id G
  obtain ⟨fs0, hf0⟩ := hok.1.2
  rcases hop with ⟨N1, N2, N3, σ1, σ2, h1, o1, h2, o2, h3, hI⟩ | ⟨N1, N2, N3, E, k, σ1, σ2, h1, hek, o1, h2, o2, h3, hI⟩
  · have q1 := xcall_mono _ _ _ _ _ _ h1
    have q2 := xcall_mono _ _ _ _ _ _ h2
    have q3 := hbd σ2 hI
    obtain ⟨fs1, hf1⟩ := o1.2.2
    obtain ⟨fs2, hf2⟩ := o2.2.2
    refine lv_aload_n hx hb dL_law_767 rfl (lv_at hl 1 rfl) ?_
    refine lw_arg (k := 1) G hL hpt hl (List.mem_of_getElem? (i := 0) rfl) (List.mem_of_getElem? (i := 4) rfl) (by decide) (by omega) dL_law_768 dL_law_769 dL_law_771 dL_law_772 dL_law_773 ?_
    refine lw_arg (k := 2) G hL hpt hl (List.mem_of_getElem? (i := 0) rfl) (List.mem_of_getElem? (i := 4) rfl) (by decide) (by omega) dL_law_774 dL_law_775 dL_law_777 dL_law_778 dL_law_779 ?_
    refine lw_arg (k := 3) G hL hpt hl (List.mem_of_getElem? (i := 0) rfl) (List.mem_of_getElem? (i := 4) rfl) (by decide) (by omega) dL_law_780 dL_law_781 dL_law_783 dL_law_784 dL_law_785 ?_
    refine lw_callW (n := 4) (As := [.ref ax, .int (xs (i + 1)), .int (xs (i + 2)), .int (xs (i + 3))]) (rest := []) (wn_replyWith (v := v) h1 hok.1.1 hf0) rfl G hpt (by rw [hax]) (xt4 8 rfl rfl) (xt4 6 rfl rfl) (xt4 7 rfl rfl) (xt1 0 rfl rfl) (by decide +kernel) rfl (by decide) hl.1 (Nat.le_of_ble_eq_true rfl) dL_law_786 hdd (by show _ ≤ 601024; omega) (by show _ ≤ 7293034; omega) (fun H1 locs1 w1 hag hpt => ?_)
    have hax1 : w1.1 x = ax := (hag x hok.1.1).1.trans hax
    have ham1 : w1.1 mm = am := (hag mm hok.2.1).1.trans ham
    refine lv_istore (lv' := (5, .int 0) :: [(0, .ref b), (1, .ref ax), (2, .ref am), (3, .ref qo), (4, .int (nI i))]) hx hb dL_law_789 hl (by decide) rfl (fun ls1 hl => ?_)
    refine lv_aload_n hx hb dL_law_791 rfl (lv_at hl 3 rfl) ?_
    refine lw_arg (k := 1) G hL hpt hl (List.mem_of_getElem? (i := 1) rfl) (List.mem_of_getElem? (i := 5) rfl) (by decide) (by omega) dL_law_792 dL_law_793 dL_law_795 dL_law_796 dL_law_797 ?_
    refine lw_arg (k := 2) G hL hpt hl (List.mem_of_getElem? (i := 1) rfl) (List.mem_of_getElem? (i := 5) rfl) (by decide) (by omega) dL_law_798 dL_law_799 dL_law_801 dL_law_802 dL_law_803 ?_
    refine lw_arg (k := 3) G hL hpt hl (List.mem_of_getElem? (i := 1) rfl) (List.mem_of_getElem? (i := 5) rfl) (by decide) (by omega) dL_law_804 dL_law_805 dL_law_807 dL_law_808 dL_law_809 ?_
    refine lw_callM (is := [.int (xs (i + 1)), .int (xs (i + 2)), .int (xs (i + 3))]) (rest := []) h2 G hpt ham1 o1.2.1 hf1 rfl (by decide) (xok_ints [(xs (i + 1)), (xs (i + 2)), (xs (i + 3))]) rfl (xt5 126 rfl rfl) (xt5 127 rfl rfl) (xt5 128 rfl rfl) hl.1 (Nat.le_of_ble_eq_true rfl) dL_law_810 hdd (by show _ ≤ 601024; omega) (by show _ ≤ 7293034; omega) (fun H2 locs2 w2 hag2 hpt => ?_)
    have hax2 : w2.1 x = ax := (hag2 x o1.1.1).1.trans hax1
    have ham2 : w2.1 mm = am := (hag2 mm o1.2.1).1.trans ham1
    refine lv_aload_n hx hb dL_law_813 rfl (lv_at hl 3 rfl) ?_
    refine lw_callM (is := []) (rest := []) h3 G hpt ham2 o2.2.1 hf2 rfl (by decide) (xok_ints []) rfl (xt4 216 rfl rfl) (xt4 217 rfl rfl) (xt4 218 rfl rfl) hl.1 (Nat.le_of_ble_eq_true rfl) dL_law_814 hdd (by show _ ≤ 601024; omega) (by show _ ≤ 7293034; omega) (fun H3 locs3 w3 hag3 hpt => ?_)
    have hax3 : w3.1 x = ax := (hag3 x o2.1.1).1.trans hax2
    have ham3 : w3.1 mm = am := (hag3 mm o2.2.1).1.trans ham2
    refine lv_iload hx hb dL_law_817 (lv_at hl 0 rfl) ?_
    refine lv_icmp_eq (tgt := 824) hx hb dL_law_819 (by decide) (fun _ => ?_) (fun hne => absurd rfl hne)
    refine lv_goto (tgt := 1247) hx hb dL_law_824 (by decide) ?_
    exact lw_num (by omega) (by omega) (hk σ2 w3 _ H3 locs3 _ t hI hax3 ham3 hpt (lv_sub hl [1, 2, 3, 4, 5] rfl) (by omega))
  · have q1 := xcallX_mono _ _ _ _ _ _ h1
    have q2 := xcall_mono _ _ _ _ _ _ h2
    have q3 := hbd σ2 hI
    obtain ⟨fs1, hf1⟩ := o1.2.2
    obtain ⟨fs2, hf2⟩ := o2.2.2
    rcases List.mem_cons.mp hek with hek | hek
    · cases hek
      refine lv_aload_n hx hb dL_law_767 rfl (lv_at hl 1 rfl) ?_
      refine lw_arg (k := 1) G hL hpt hl (List.mem_of_getElem? (i := 0) rfl) (List.mem_of_getElem? (i := 4) rfl) (by decide) (by omega) dL_law_768 dL_law_769 dL_law_771 dL_law_772 dL_law_773 ?_
      refine lw_arg (k := 2) G hL hpt hl (List.mem_of_getElem? (i := 0) rfl) (List.mem_of_getElem? (i := 4) rfl) (by decide) (by omega) dL_law_774 dL_law_775 dL_law_777 dL_law_778 dL_law_779 ?_
      refine lw_arg (k := 3) G hL hpt hl (List.mem_of_getElem? (i := 0) rfl) (List.mem_of_getElem? (i := 4) rfl) (by decide) (by omega) dL_law_780 dL_law_781 dL_law_783 dL_law_784 dL_law_785 ?_
      refine lw_callW (n := 4) (As := [.ref ax, .int (xs (i + 1)), .int (xs (i + 2)), .int (xs (i + 3))]) (rest := []) (wx_replyWith_2 (v := v) hls h1 hok.1.1 hf0) rfl G hpt (by rw [hax]) (xt4 8 rfl rfl) (xt4 6 rfl rfl) (xt4 7 rfl rfl) (xt1 0 rfl rfl) (by decide +kernel) rfl (by decide) hl.1 (Nat.le_of_ble_eq_true rfl) dL_law_786 hdd (by show _ ≤ 601024; omega) (by show _ ≤ 7293034; omega) (fun H1 locs1 w1 hag hpt => ?_)
      have hax1 : w1.1 x = ax := (hag x hok.1.1).1.trans hax
      have ham1 : w1.1 mm = am := (hag mm hok.2.1).1.trans ham
      refine lv_istore (lv' := (5, .int 1) :: [(0, .ref b), (1, .ref ax), (2, .ref am), (3, .ref qo), (4, .int (nI i))]) hx hb dL_law_789 hl (by decide) rfl (fun ls1 hl => ?_)
      refine lv_aload_n hx hb dL_law_791 rfl (lv_at hl 3 rfl) ?_
      refine lw_arg (k := 1) G hL hpt hl (List.mem_of_getElem? (i := 1) rfl) (List.mem_of_getElem? (i := 5) rfl) (by decide) (by omega) dL_law_792 dL_law_793 dL_law_795 dL_law_796 dL_law_797 ?_
      refine lw_arg (k := 2) G hL hpt hl (List.mem_of_getElem? (i := 1) rfl) (List.mem_of_getElem? (i := 5) rfl) (by decide) (by omega) dL_law_798 dL_law_799 dL_law_801 dL_law_802 dL_law_803 ?_
      refine lw_arg (k := 3) G hL hpt hl (List.mem_of_getElem? (i := 1) rfl) (List.mem_of_getElem? (i := 5) rfl) (by decide) (by omega) dL_law_804 dL_law_805 dL_law_807 dL_law_808 dL_law_809 ?_
      refine lw_callM (is := [.int (xs (i + 1)), .int (xs (i + 2)), .int (xs (i + 3))]) (rest := []) h2 G hpt ham1 o1.2.1 hf1 rfl (by decide) (xok_ints [(xs (i + 1)), (xs (i + 2)), (xs (i + 3))]) rfl (xt5 126 rfl rfl) (xt5 127 rfl rfl) (xt5 128 rfl rfl) hl.1 (Nat.le_of_ble_eq_true rfl) dL_law_810 hdd (by show _ ≤ 601024; omega) (by show _ ≤ 7293034; omega) (fun H2 locs2 w2 hag2 hpt => ?_)
      have hax2 : w2.1 x = ax := (hag2 x o1.1.1).1.trans hax1
      have ham2 : w2.1 mm = am := (hag2 mm o1.2.1).1.trans ham1
      refine lv_aload_n hx hb dL_law_813 rfl (lv_at hl 3 rfl) ?_
      refine lw_callM (is := []) (rest := []) h3 G hpt ham2 o2.2.1 hf2 rfl (by decide) (xok_ints []) rfl (xt4 216 rfl rfl) (xt4 217 rfl rfl) (xt4 218 rfl rfl) hl.1 (Nat.le_of_ble_eq_true rfl) dL_law_814 hdd (by show _ ≤ 601024; omega) (by show _ ≤ 7293034; omega) (fun H3 locs3 w3 hag3 hpt => ?_)
      have hax3 : w3.1 x = ax := (hag3 x o2.1.1).1.trans hax2
      have ham3 : w3.1 mm = am := (hag3 mm o2.2.1).1.trans ham2
      refine lv_iload hx hb dL_law_817 (lv_at hl 0 rfl) ?_
      refine lv_icmp_eq (tgt := 824) hx hb dL_law_819 (by decide) (fun _ => ?_) (fun hne => absurd rfl hne)
      refine lv_goto (tgt := 1247) hx hb dL_law_824 (by decide) ?_
      exact lw_num (by omega) (by omega) (hk σ2 w3 _ H3 locs3 _ (t + 1) hI hax3 ham3 hpt (lv_sub hl [1, 2, 3, 4, 5] rfl) (by omega))
    rcases List.mem_cons.mp hek with hek | hek
    · cases hek
      refine lv_aload_n hx hb dL_law_767 rfl (lv_at hl 1 rfl) ?_
      refine lw_arg (k := 1) G hL hpt hl (List.mem_of_getElem? (i := 0) rfl) (List.mem_of_getElem? (i := 4) rfl) (by decide) (by omega) dL_law_768 dL_law_769 dL_law_771 dL_law_772 dL_law_773 ?_
      refine lw_arg (k := 2) G hL hpt hl (List.mem_of_getElem? (i := 0) rfl) (List.mem_of_getElem? (i := 4) rfl) (by decide) (by omega) dL_law_774 dL_law_775 dL_law_777 dL_law_778 dL_law_779 ?_
      refine lw_arg (k := 3) G hL hpt hl (List.mem_of_getElem? (i := 0) rfl) (List.mem_of_getElem? (i := 4) rfl) (by decide) (by omega) dL_law_780 dL_law_781 dL_law_783 dL_law_784 dL_law_785 ?_
      refine lw_callW (n := 4) (As := [.ref ax, .int (xs (i + 1)), .int (xs (i + 2)), .int (xs (i + 3))]) (rest := []) (wx_replyWith_1 (v := v) hls h1 hok.1.1 hf0) rfl G hpt (by rw [hax]) (xt4 8 rfl rfl) (xt4 6 rfl rfl) (xt4 7 rfl rfl) (xt1 0 rfl rfl) (by decide +kernel) rfl (by decide) hl.1 (Nat.le_of_ble_eq_true rfl) dL_law_786 hdd (by show _ ≤ 601024; omega) (by show _ ≤ 7293034; omega) (fun H1 locs1 w1 hag hpt => ?_)
      have hax1 : w1.1 x = ax := (hag x hok.1.1).1.trans hax
      have ham1 : w1.1 mm = am := (hag mm hok.2.1).1.trans ham
      refine lv_istore (lv' := (5, .int 2) :: [(0, .ref b), (1, .ref ax), (2, .ref am), (3, .ref qo), (4, .int (nI i))]) hx hb dL_law_789 hl (by decide) rfl (fun ls1 hl => ?_)
      refine lv_aload_n hx hb dL_law_791 rfl (lv_at hl 3 rfl) ?_
      refine lw_arg (k := 1) G hL hpt hl (List.mem_of_getElem? (i := 1) rfl) (List.mem_of_getElem? (i := 5) rfl) (by decide) (by omega) dL_law_792 dL_law_793 dL_law_795 dL_law_796 dL_law_797 ?_
      refine lw_arg (k := 2) G hL hpt hl (List.mem_of_getElem? (i := 1) rfl) (List.mem_of_getElem? (i := 5) rfl) (by decide) (by omega) dL_law_798 dL_law_799 dL_law_801 dL_law_802 dL_law_803 ?_
      refine lw_arg (k := 3) G hL hpt hl (List.mem_of_getElem? (i := 1) rfl) (List.mem_of_getElem? (i := 5) rfl) (by decide) (by omega) dL_law_804 dL_law_805 dL_law_807 dL_law_808 dL_law_809 ?_
      refine lw_callM (is := [.int (xs (i + 1)), .int (xs (i + 2)), .int (xs (i + 3))]) (rest := []) h2 G hpt ham1 o1.2.1 hf1 rfl (by decide) (xok_ints [(xs (i + 1)), (xs (i + 2)), (xs (i + 3))]) rfl (xt5 126 rfl rfl) (xt5 127 rfl rfl) (xt5 128 rfl rfl) hl.1 (Nat.le_of_ble_eq_true rfl) dL_law_810 hdd (by show _ ≤ 601024; omega) (by show _ ≤ 7293034; omega) (fun H2 locs2 w2 hag2 hpt => ?_)
      have hax2 : w2.1 x = ax := (hag2 x o1.1.1).1.trans hax1
      have ham2 : w2.1 mm = am := (hag2 mm o1.2.1).1.trans ham1
      refine lv_aload_n hx hb dL_law_813 rfl (lv_at hl 3 rfl) ?_
      refine lw_callM (is := []) (rest := []) h3 G hpt ham2 o2.2.1 hf2 rfl (by decide) (xok_ints []) rfl (xt4 216 rfl rfl) (xt4 217 rfl rfl) (xt4 218 rfl rfl) hl.1 (Nat.le_of_ble_eq_true rfl) dL_law_814 hdd (by show _ ≤ 601024; omega) (by show _ ≤ 7293034; omega) (fun H3 locs3 w3 hag3 hpt => ?_)
      have hax3 : w3.1 x = ax := (hag3 x o2.1.1).1.trans hax2
      have ham3 : w3.1 mm = am := (hag3 mm o2.2.1).1.trans ham2
      refine lv_iload hx hb dL_law_817 (lv_at hl 0 rfl) ?_
      refine lv_icmp_eq (tgt := 824) hx hb dL_law_819 (by decide) (fun _ => ?_) (fun hne => absurd rfl hne)
      refine lv_goto (tgt := 1247) hx hb dL_law_824 (by decide) ?_
      exact lw_num (by omega) (by omega) (hk σ2 w3 _ H3 locs3 _ (t + 1) hI hax3 ham3 hpt (lv_sub hl [1, 2, 3, 4, 5] rfl) (by omega))
    cases hek
set_option maxHeartbeats 2000000 in
set_option maxRecDepth 100000 in
theorem lc_state {p : Program} {l : Launch} {e : Env} {s : State} {m : MethodId} {below : List Frame} {meth : Method} {c : Code} {Q : State → Prop} {D : va_G} {H : Heap} {locs : List Loc} {ls : Array Slot} {w : XW} {σ : XS} {qo ax am : Nat} {cL : ClassId} {v : Nat → Int64} {b L d x mm i t : Nat} {xs : Nat → Int32} {Inv : XS → Prop} (hls : l.stackTraces = false) (G : lwH p s m meth c b L xs) (hL : L ≤ 3072) (hi : i + 6 ≤ L) (hop : lwI d x mm 86 143 [.int (xs (i + 1)), .int (xs (i + 2))] [(2, 1), (0, 2)] Inv σ) (hok : lwOk x mm σ) (hbd : ∀ σ, Inv σ → σ.1 ≤ 2000 ∧ σ.2.1 ≤ 100000) (ht : t ≤ 3072) (hdd : d ≤ 1000) (hpt : lwPt D (lwA s) s H locs w σ qo cL v) (hax : w.1 x = ax) (ham : w.1 mm = am) (hl : lv_has ls 7 [(0, .ref b), (1, .ref ax), (2, .ref am), (3, .ref qo), (4, .int (nI i))])
    (hk : ∀ (σ' : XS) (w' : XW) (v' : Nat → Int64) (H' : Heap) (locs' : List Loc) (ls' : Array Slot) (t' : Nat), Inv σ' → w'.1 x = ax → w'.1 mm = am → lwPt D (lwA s) s H' locs' w' σ' qo cL v' → lv_has ls' 7 [(0, .ref b), (1, .ref ax), (2, .ref am), (3, .ref qo), (4, .int (nI i))] → t' ≤ t + 1 → W p l e room_1 s m #[Value.ref b] below meth c H' locs' (σ'.1 + 1 + t') (σ'.2.1 + 1 + 6 * t') Q (F0 m 1247 ls' [])) :
    W p l e room_1 s m #[Value.ref b] below meth c H locs (σ.1 + 1 + t) (σ.2.1 + 1 + 6 * t) Q (F0 m 827 ls []) := by
  obtain ⟨⟨hx, hb, hr, hml, hown, hts0, hX, hbl, hlocks, hgv⟩, hts, htn, hz, hnc⟩ := id G
  obtain ⟨fs0, hf0⟩ := hok.1.2
  rcases hop with ⟨N1, N2, N3, r, σ1, σ2, h1, o1, h2, o2, h3, hI⟩ | ⟨N1, N2, N3, E, k, b9, σ1, σ2, h1, hek, o1, h2, o2, h3, hI⟩
  · have q1 := xcall_mono _ _ _ _ _ _ h1
    have q2 := xcall_mono _ _ _ _ _ _ h2
    have q3 := hbd σ2 hI
    obtain ⟨fs1, hf1⟩ := o1.2.2
    obtain ⟨fs2, hf2⟩ := o2.2.2
    refine lv_aload_n hx hb dL_law_827 rfl (lv_at hl 1 rfl) ?_
    refine lw_arg (k := 1) G hL hpt hl (List.mem_of_getElem? (i := 0) rfl) (List.mem_of_getElem? (i := 4) rfl) (by decide) (by omega) dL_law_828 dL_law_829 dL_law_831 dL_law_832 dL_law_833 ?_
    refine lw_arg (k := 2) G hL hpt hl (List.mem_of_getElem? (i := 0) rfl) (List.mem_of_getElem? (i := 4) rfl) (by decide) (by omega) dL_law_834 dL_law_835 dL_law_837 dL_law_838 dL_law_839 ?_
    refine lv_aload_n hx hb dL_law_840 rfl (lv_at hl 3 rfl) ?_
    refine lw_callW (n := 4) (As := [.ref ax, .int (xs (i + 1)), .int (xs (i + 2)), .ref qo]) (rest := []) (wn_state (v := v) h1 hok.1.1 hf0) rfl G hpt (by rw [hax]) (xt4 16 rfl rfl) (xt4 14 rfl rfl) (xt4 15 rfl rfl) (xt1 0 rfl rfl) (by decide +kernel) rfl (by decide) hl.1 (Nat.le_of_ble_eq_true rfl) dL_law_841 hdd (by show _ ≤ 601024; omega) (by show _ ≤ 7293034; omega) (fun H1 locs1 w1 hag hpt => ?_)
    have hax1 : w1.1 x = ax := (hag x hok.1.1).1.trans hax
    have ham1 : w1.1 mm = am := (hag mm hok.2.1).1.trans ham
    refine lv_istore (lv' := (5, .int 0) :: [(0, .ref b), (1, .ref ax), (2, .ref am), (3, .ref qo), (4, .int (nI i))]) hx hb dL_law_844 hl (by decide) rfl (fun ls1 hl => ?_)
    refine lv_aload_n hx hb dL_law_846 rfl (lv_at hl 3 rfl) ?_
    refine lw_arg (k := 1) G hL hpt hl (List.mem_of_getElem? (i := 1) rfl) (List.mem_of_getElem? (i := 5) rfl) (by decide) (by omega) dL_law_847 dL_law_848 dL_law_850 dL_law_851 dL_law_852 ?_
    refine lw_arg (k := 2) G hL hpt hl (List.mem_of_getElem? (i := 1) rfl) (List.mem_of_getElem? (i := 5) rfl) (by decide) (by omega) dL_law_853 dL_law_854 dL_law_856 dL_law_857 dL_law_858 ?_
    refine lw_callM (is := [.int (xs (i + 1)), .int (xs (i + 2))]) (rest := []) h2 G hpt ham1 o1.2.1 hf1 rfl (by decide) (xok_ints [(xs (i + 1)), (xs (i + 2))]) rfl (xt5 130 rfl rfl) (xt5 131 rfl rfl) (xt5 132 rfl rfl) hl.1 (Nat.le_of_ble_eq_true rfl) dL_law_859 hdd (by show _ ≤ 601024; omega) (by show _ ≤ 7293034; omega) (fun H2 locs2 w2 hag2 hpt => ?_)
    have hax2 : w2.1 x = ax := (hag2 x o1.1.1).1.trans hax1
    have ham2 : w2.1 mm = am := (hag2 mm o1.2.1).1.trans ham1
    refine lv_istore (lv' := (6, .int r) :: (5, .int 0) :: [(0, .ref b), (1, .ref ax), (2, .ref am), (3, .ref qo), (4, .int (nI i))]) hx hb dL_law_862 hl (by decide) rfl (fun ls2 hl => ?_)
    refine lv_aload_n hx hb dL_law_864 rfl (lv_at hl 4 rfl) ?_
    refine lw_callM (is := []) (rest := []) h3 G hpt ham2 o2.2.1 hf2 rfl (by decide) (xok_ints []) rfl (xt4 216 rfl rfl) (xt4 217 rfl rfl) (xt4 218 rfl rfl) hl.1 (Nat.le_of_ble_eq_true rfl) dL_law_865 hdd (by show _ ≤ 601024; omega) (by show _ ≤ 7293034; omega) (fun H3 locs3 w3 hag3 hpt => ?_)
    have hax3 : w3.1 x = ax := (hag3 x o2.1.1).1.trans hax2
    have ham3 : w3.1 mm = am := (hag3 mm o2.2.1).1.trans ham2
    refine lv_iload hx hb dL_law_868 (lv_at hl 1 rfl) ?_
    refine lv_icmp_eq (tgt := 875) hx hb dL_law_870 (by decide) (fun _ => ?_) (fun hne => absurd rfl hne)
    refine lv_iload hx hb dL_law_875 (lv_at hl 1 rfl) ?_
    refine lv_if_ne (tgt := 892) hx hb dL_law_877 (by decide) (fun hne => absurd rfl hne) (fun _ => ?_)
    refine lv_aload_n hx hb dL_law_880 rfl (lv_at hl 5 rfl) ?_
    refine lv_iconst (v := 0) hx hb dL_law_881 (by decide) ?_
    refine lw_laload G hpt dL_law_882 ?_
    rw [pk_uLs]
    refine lv_iload hx hb dL_law_883 (lv_at hl 0 rfl) ?_
    refine lv_i2l hx hb dL_law_885 rfl ?_
    refine W.lcmp hx hb dL_law_886 ?_
    rw [lg_cmp_self]
    refine lv_if_eq (tgt := 892) hx hb dL_law_887 (by decide) (fun _ => ?_) (fun hne => absurd rfl hne)
    refine lv_goto (tgt := 1247) hx hb dL_law_892 (by decide) ?_
    exact lw_num (by omega) (by omega) (hk σ2 w3 _ H3 locs3 _ t hI hax3 ham3 hpt (lv_sub hl [2, 3, 4, 5, 6] rfl) (by omega))
  · have q1 := xcallX_mono _ _ _ _ _ _ h1
    have q2 := xcall_mono _ _ _ _ _ _ h2
    have q3 := hbd σ2 hI
    obtain ⟨fs1, hf1⟩ := o1.2.2
    obtain ⟨fs2, hf2⟩ := o2.2.2
    rcases List.mem_cons.mp hek with hek | hek
    · cases hek
      refine lv_aload_n hx hb dL_law_827 rfl (lv_at hl 1 rfl) ?_
      refine lw_arg (k := 1) G hL hpt hl (List.mem_of_getElem? (i := 0) rfl) (List.mem_of_getElem? (i := 4) rfl) (by decide) (by omega) dL_law_828 dL_law_829 dL_law_831 dL_law_832 dL_law_833 ?_
      refine lw_arg (k := 2) G hL hpt hl (List.mem_of_getElem? (i := 0) rfl) (List.mem_of_getElem? (i := 4) rfl) (by decide) (by omega) dL_law_834 dL_law_835 dL_law_837 dL_law_838 dL_law_839 ?_
      refine lv_aload_n hx hb dL_law_840 rfl (lv_at hl 3 rfl) ?_
      refine lw_callW (n := 4) (As := [.ref ax, .int (xs (i + 1)), .int (xs (i + 2)), .ref qo]) (rest := []) (wx_state_2 (v := v) hls h1 hok.1.1 hf0) rfl G hpt (by rw [hax]) (xt4 16 rfl rfl) (xt4 14 rfl rfl) (xt4 15 rfl rfl) (xt1 0 rfl rfl) (by decide +kernel) rfl (by decide) hl.1 (Nat.le_of_ble_eq_true rfl) dL_law_841 hdd (by show _ ≤ 601024; omega) (by show _ ≤ 7293034; omega) (fun H1 locs1 w1 hag hpt => ?_)
      have hax1 : w1.1 x = ax := (hag x hok.1.1).1.trans hax
      have ham1 : w1.1 mm = am := (hag mm hok.2.1).1.trans ham
      refine lv_istore (lv' := (5, .int 1) :: [(0, .ref b), (1, .ref ax), (2, .ref am), (3, .ref qo), (4, .int (nI i))]) hx hb dL_law_844 hl (by decide) rfl (fun ls1 hl => ?_)
      refine lv_aload_n hx hb dL_law_846 rfl (lv_at hl 3 rfl) ?_
      refine lw_arg (k := 1) G hL hpt hl (List.mem_of_getElem? (i := 1) rfl) (List.mem_of_getElem? (i := 5) rfl) (by decide) (by omega) dL_law_847 dL_law_848 dL_law_850 dL_law_851 dL_law_852 ?_
      refine lw_arg (k := 2) G hL hpt hl (List.mem_of_getElem? (i := 1) rfl) (List.mem_of_getElem? (i := 5) rfl) (by decide) (by omega) dL_law_853 dL_law_854 dL_law_856 dL_law_857 dL_law_858 ?_
      refine lw_callM (is := [.int (xs (i + 1)), .int (xs (i + 2))]) (rest := []) h2 G hpt ham1 o1.2.1 hf1 rfl (by decide) (xok_ints [(xs (i + 1)), (xs (i + 2))]) rfl (xt5 130 rfl rfl) (xt5 131 rfl rfl) (xt5 132 rfl rfl) hl.1 (Nat.le_of_ble_eq_true rfl) dL_law_859 hdd (by show _ ≤ 601024; omega) (by show _ ≤ 7293034; omega) (fun H2 locs2 w2 hag2 hpt => ?_)
      have hax2 : w2.1 x = ax := (hag2 x o1.1.1).1.trans hax1
      have ham2 : w2.1 mm = am := (hag2 mm o1.2.1).1.trans ham1
      refine lv_istore (lv' := (6, .int b9) :: (5, .int 1) :: [(0, .ref b), (1, .ref ax), (2, .ref am), (3, .ref qo), (4, .int (nI i))]) hx hb dL_law_862 hl (by decide) rfl (fun ls2 hl => ?_)
      refine lv_aload_n hx hb dL_law_864 rfl (lv_at hl 4 rfl) ?_
      refine lw_callM (is := []) (rest := []) h3 G hpt ham2 o2.2.1 hf2 rfl (by decide) (xok_ints []) rfl (xt4 216 rfl rfl) (xt4 217 rfl rfl) (xt4 218 rfl rfl) hl.1 (Nat.le_of_ble_eq_true rfl) dL_law_865 hdd (by show _ ≤ 601024; omega) (by show _ ≤ 7293034; omega) (fun H3 locs3 w3 hag3 hpt => ?_)
      have hax3 : w3.1 x = ax := (hag3 x o2.1.1).1.trans hax2
      have ham3 : w3.1 mm = am := (hag3 mm o2.2.1).1.trans ham2
      refine lv_iload hx hb dL_law_868 (lv_at hl 1 rfl) ?_
      refine lv_icmp_eq (tgt := 875) hx hb dL_law_870 (by decide) (fun _ => ?_) (fun hne => absurd rfl hne)
      refine lv_iload hx hb dL_law_875 (lv_at hl 1 rfl) ?_
      refine lv_if_ne (tgt := 892) hx hb dL_law_877 (by decide) (fun _ => ?_) (fun hz0 => absurd hz0 (by decide))
      refine lv_goto (tgt := 1247) hx hb dL_law_892 (by decide) ?_
      exact lw_num (by omega) (by omega) (hk σ2 w3 _ H3 locs3 _ (t + 1) hI hax3 ham3 hpt (lv_sub hl [2, 3, 4, 5, 6] rfl) (by omega))
    rcases List.mem_cons.mp hek with hek | hek
    · cases hek
      refine lv_aload_n hx hb dL_law_827 rfl (lv_at hl 1 rfl) ?_
      refine lw_arg (k := 1) G hL hpt hl (List.mem_of_getElem? (i := 0) rfl) (List.mem_of_getElem? (i := 4) rfl) (by decide) (by omega) dL_law_828 dL_law_829 dL_law_831 dL_law_832 dL_law_833 ?_
      refine lw_arg (k := 2) G hL hpt hl (List.mem_of_getElem? (i := 0) rfl) (List.mem_of_getElem? (i := 4) rfl) (by decide) (by omega) dL_law_834 dL_law_835 dL_law_837 dL_law_838 dL_law_839 ?_
      refine lv_aload_n hx hb dL_law_840 rfl (lv_at hl 3 rfl) ?_
      refine lw_callW (n := 4) (As := [.ref ax, .int (xs (i + 1)), .int (xs (i + 2)), .ref qo]) (rest := []) (wx_state_0 (v := v) hls h1 hok.1.1 hf0) rfl G hpt (by rw [hax]) (xt4 16 rfl rfl) (xt4 14 rfl rfl) (xt4 15 rfl rfl) (xt1 0 rfl rfl) (by decide +kernel) rfl (by decide) hl.1 (Nat.le_of_ble_eq_true rfl) dL_law_841 hdd (by show _ ≤ 601024; omega) (by show _ ≤ 7293034; omega) (fun H1 locs1 w1 hag hpt => ?_)
      have hax1 : w1.1 x = ax := (hag x hok.1.1).1.trans hax
      have ham1 : w1.1 mm = am := (hag mm hok.2.1).1.trans ham
      refine lv_istore (lv' := (5, .int 2) :: [(0, .ref b), (1, .ref ax), (2, .ref am), (3, .ref qo), (4, .int (nI i))]) hx hb dL_law_844 hl (by decide) rfl (fun ls1 hl => ?_)
      refine lv_aload_n hx hb dL_law_846 rfl (lv_at hl 3 rfl) ?_
      refine lw_arg (k := 1) G hL hpt hl (List.mem_of_getElem? (i := 1) rfl) (List.mem_of_getElem? (i := 5) rfl) (by decide) (by omega) dL_law_847 dL_law_848 dL_law_850 dL_law_851 dL_law_852 ?_
      refine lw_arg (k := 2) G hL hpt hl (List.mem_of_getElem? (i := 1) rfl) (List.mem_of_getElem? (i := 5) rfl) (by decide) (by omega) dL_law_853 dL_law_854 dL_law_856 dL_law_857 dL_law_858 ?_
      refine lw_callM (is := [.int (xs (i + 1)), .int (xs (i + 2))]) (rest := []) h2 G hpt ham1 o1.2.1 hf1 rfl (by decide) (xok_ints [(xs (i + 1)), (xs (i + 2))]) rfl (xt5 130 rfl rfl) (xt5 131 rfl rfl) (xt5 132 rfl rfl) hl.1 (Nat.le_of_ble_eq_true rfl) dL_law_859 hdd (by show _ ≤ 601024; omega) (by show _ ≤ 7293034; omega) (fun H2 locs2 w2 hag2 hpt => ?_)
      have hax2 : w2.1 x = ax := (hag2 x o1.1.1).1.trans hax1
      have ham2 : w2.1 mm = am := (hag2 mm o1.2.1).1.trans ham1
      refine lv_istore (lv' := (6, .int b9) :: (5, .int 2) :: [(0, .ref b), (1, .ref ax), (2, .ref am), (3, .ref qo), (4, .int (nI i))]) hx hb dL_law_862 hl (by decide) rfl (fun ls2 hl => ?_)
      refine lv_aload_n hx hb dL_law_864 rfl (lv_at hl 4 rfl) ?_
      refine lw_callM (is := []) (rest := []) h3 G hpt ham2 o2.2.1 hf2 rfl (by decide) (xok_ints []) rfl (xt4 216 rfl rfl) (xt4 217 rfl rfl) (xt4 218 rfl rfl) hl.1 (Nat.le_of_ble_eq_true rfl) dL_law_865 hdd (by show _ ≤ 601024; omega) (by show _ ≤ 7293034; omega) (fun H3 locs3 w3 hag3 hpt => ?_)
      have hax3 : w3.1 x = ax := (hag3 x o2.1.1).1.trans hax2
      have ham3 : w3.1 mm = am := (hag3 mm o2.2.1).1.trans ham2
      refine lv_iload hx hb dL_law_868 (lv_at hl 1 rfl) ?_
      refine lv_icmp_eq (tgt := 875) hx hb dL_law_870 (by decide) (fun _ => ?_) (fun hne => absurd rfl hne)
      refine lv_iload hx hb dL_law_875 (lv_at hl 1 rfl) ?_
      refine lv_if_ne (tgt := 892) hx hb dL_law_877 (by decide) (fun _ => ?_) (fun hz0 => absurd hz0 (by decide))
      refine lv_goto (tgt := 1247) hx hb dL_law_892 (by decide) ?_
      exact lw_num (by omega) (by omega) (hk σ2 w3 _ H3 locs3 _ (t + 1) hI hax3 ham3 hpt (lv_sub hl [2, 3, 4, 5, 6] rfl) (by omega))
    cases hek
set_option maxHeartbeats 2000000 in
set_option maxRecDepth 100000 in
theorem lc_history {p : Program} {l : Launch} {e : Env} {s : State} {m : MethodId} {below : List Frame} {meth : Method} {c : Code} {Q : State → Prop} {D : va_G} {H : Heap} {locs : List Loc} {ls : Array Slot} {w : XW} {σ : XS} {qo ax am : Nat} {cL : ClassId} {v : Nat → Int64} {b L d x mm i t : Nat} {xs : Nat → Int32} {Inv : XS → Prop} (hls : l.stackTraces = false) (G : lwH p s m meth c b L xs) (hL : L ≤ 3072) (hi : i + 6 ≤ L) (hop : lwI d x mm 87 144 [.int (xs (i + 1)), .int (xs (i + 2))] [(2, 1)] Inv σ) (hok : lwOk x mm σ) (hbd : ∀ σ, Inv σ → σ.1 ≤ 2000 ∧ σ.2.1 ≤ 100000) (ht : t ≤ 3072) (hdd : d ≤ 1000) (hpt : lwPt D (lwA s) s H locs w σ qo cL v) (hax : w.1 x = ax) (ham : w.1 mm = am) (hl : lv_has ls 7 [(0, .ref b), (1, .ref ax), (2, .ref am), (3, .ref qo), (4, .int (nI i))])
    (hk : ∀ (σ' : XS) (w' : XW) (v' : Nat → Int64) (H' : Heap) (locs' : List Loc) (ls' : Array Slot) (t' : Nat), Inv σ' → w'.1 x = ax → w'.1 mm = am → lwPt D (lwA s) s H' locs' w' σ' qo cL v' → lv_has ls' 7 [(0, .ref b), (1, .ref ax), (2, .ref am), (3, .ref qo), (4, .int (nI i))] → t' ≤ t + 1 → W p l e room_1 s m #[Value.ref b] below meth c H' locs' (σ'.1 + 1 + t') (σ'.2.1 + 1 + 6 * t') Q (F0 m 1247 ls' [])) :
    W p l e room_1 s m #[Value.ref b] below meth c H locs (σ.1 + 1 + t) (σ.2.1 + 1 + 6 * t) Q (F0 m 895 ls []) := by
  obtain ⟨⟨hx, hb, hr, hml, hown, hts0, hX, hbl, hlocks, hgv⟩, hts, htn, hz, hnc⟩ := id G
  obtain ⟨fs0, hf0⟩ := hok.1.2
  rcases hop with ⟨N1, N2, N3, r, σ1, σ2, h1, o1, h2, o2, h3, hI⟩ | ⟨N1, N2, N3, E, k, b9, σ1, σ2, h1, hek, o1, h2, o2, h3, hI⟩
  · have q1 := xcall_mono _ _ _ _ _ _ h1
    have q2 := xcall_mono _ _ _ _ _ _ h2
    have q3 := hbd σ2 hI
    obtain ⟨fs1, hf1⟩ := o1.2.2
    obtain ⟨fs2, hf2⟩ := o2.2.2
    refine lv_aload_n hx hb dL_law_895 rfl (lv_at hl 1 rfl) ?_
    refine lw_arg (k := 1) G hL hpt hl (List.mem_of_getElem? (i := 0) rfl) (List.mem_of_getElem? (i := 4) rfl) (by decide) (by omega) dL_law_896 dL_law_897 dL_law_899 dL_law_900 dL_law_901 ?_
    refine lw_arg (k := 2) G hL hpt hl (List.mem_of_getElem? (i := 0) rfl) (List.mem_of_getElem? (i := 4) rfl) (by decide) (by omega) dL_law_902 dL_law_903 dL_law_905 dL_law_906 dL_law_907 ?_
    refine lv_aload_n hx hb dL_law_908 rfl (lv_at hl 3 rfl) ?_
    refine lw_callW (n := 4) (As := [.ref ax, .int (xs (i + 1)), .int (xs (i + 2)), .ref qo]) (rest := []) (wn_history (v := v) h1 hok.1.1 hf0) rfl G hpt (by rw [hax]) (xt4 38 rfl rfl) (xt4 36 rfl rfl) (xt4 37 rfl rfl) (xt1 0 rfl rfl) (by decide +kernel) rfl (by decide) hl.1 (Nat.le_of_ble_eq_true rfl) dL_law_909 hdd (by show _ ≤ 601024; omega) (by show _ ≤ 7293034; omega) (fun H1 locs1 w1 hag hpt => ?_)
    have hax1 : w1.1 x = ax := (hag x hok.1.1).1.trans hax
    have ham1 : w1.1 mm = am := (hag mm hok.2.1).1.trans ham
    refine lv_istore (lv' := (5, .int 0) :: [(0, .ref b), (1, .ref ax), (2, .ref am), (3, .ref qo), (4, .int (nI i))]) hx hb dL_law_912 hl (by decide) rfl (fun ls1 hl => ?_)
    refine lv_aload_n hx hb dL_law_914 rfl (lv_at hl 3 rfl) ?_
    refine lw_arg (k := 1) G hL hpt hl (List.mem_of_getElem? (i := 1) rfl) (List.mem_of_getElem? (i := 5) rfl) (by decide) (by omega) dL_law_915 dL_law_916 dL_law_918 dL_law_919 dL_law_920 ?_
    refine lw_arg (k := 2) G hL hpt hl (List.mem_of_getElem? (i := 1) rfl) (List.mem_of_getElem? (i := 5) rfl) (by decide) (by omega) dL_law_921 dL_law_922 dL_law_924 dL_law_925 dL_law_926 ?_
    refine lw_callM (is := [.int (xs (i + 1)), .int (xs (i + 2))]) (rest := []) h2 G hpt ham1 o1.2.1 hf1 rfl (by decide) (xok_ints [(xs (i + 1)), (xs (i + 2))]) rfl (xt5 134 rfl rfl) (xt5 135 rfl rfl) (xt5 136 rfl rfl) hl.1 (Nat.le_of_ble_eq_true rfl) dL_law_927 hdd (by show _ ≤ 601024; omega) (by show _ ≤ 7293034; omega) (fun H2 locs2 w2 hag2 hpt => ?_)
    have hax2 : w2.1 x = ax := (hag2 x o1.1.1).1.trans hax1
    have ham2 : w2.1 mm = am := (hag2 mm o1.2.1).1.trans ham1
    refine lv_istore (lv' := (6, .int r) :: (5, .int 0) :: [(0, .ref b), (1, .ref ax), (2, .ref am), (3, .ref qo), (4, .int (nI i))]) hx hb dL_law_930 hl (by decide) rfl (fun ls2 hl => ?_)
    refine lv_aload_n hx hb dL_law_932 rfl (lv_at hl 4 rfl) ?_
    refine lw_callM (is := []) (rest := []) h3 G hpt ham2 o2.2.1 hf2 rfl (by decide) (xok_ints []) rfl (xt4 216 rfl rfl) (xt4 217 rfl rfl) (xt4 218 rfl rfl) hl.1 (Nat.le_of_ble_eq_true rfl) dL_law_933 hdd (by show _ ≤ 601024; omega) (by show _ ≤ 7293034; omega) (fun H3 locs3 w3 hag3 hpt => ?_)
    have hax3 : w3.1 x = ax := (hag3 x o2.1.1).1.trans hax2
    have ham3 : w3.1 mm = am := (hag3 mm o2.2.1).1.trans ham2
    refine lv_iload hx hb dL_law_936 (lv_at hl 1 rfl) ?_
    refine lv_icmp_eq (tgt := 943) hx hb dL_law_938 (by decide) (fun _ => ?_) (fun hne => absurd rfl hne)
    refine lv_iload hx hb dL_law_943 (lv_at hl 1 rfl) ?_
    refine lv_if_ne (tgt := 960) hx hb dL_law_945 (by decide) (fun hne => absurd rfl hne) (fun _ => ?_)
    refine lv_aload_n hx hb dL_law_948 rfl (lv_at hl 5 rfl) ?_
    refine lv_iconst (v := 0) hx hb dL_law_949 (by decide) ?_
    refine lw_laload G hpt dL_law_950 ?_
    rw [pk_uLs]
    refine lv_iload hx hb dL_law_951 (lv_at hl 0 rfl) ?_
    refine lv_i2l hx hb dL_law_953 rfl ?_
    refine W.lcmp hx hb dL_law_954 ?_
    rw [lg_cmp_self]
    refine lv_if_eq (tgt := 960) hx hb dL_law_955 (by decide) (fun _ => ?_) (fun hne => absurd rfl hne)
    refine lv_goto (tgt := 1247) hx hb dL_law_960 (by decide) ?_
    exact lw_num (by omega) (by omega) (hk σ2 w3 _ H3 locs3 _ t hI hax3 ham3 hpt (lv_sub hl [2, 3, 4, 5, 6] rfl) (by omega))
  · have q1 := xcallX_mono _ _ _ _ _ _ h1
    have q2 := xcall_mono _ _ _ _ _ _ h2
    have q3 := hbd σ2 hI
    obtain ⟨fs1, hf1⟩ := o1.2.2
    obtain ⟨fs2, hf2⟩ := o2.2.2
    rcases List.mem_cons.mp hek with hek | hek
    · cases hek
      refine lv_aload_n hx hb dL_law_895 rfl (lv_at hl 1 rfl) ?_
      refine lw_arg (k := 1) G hL hpt hl (List.mem_of_getElem? (i := 0) rfl) (List.mem_of_getElem? (i := 4) rfl) (by decide) (by omega) dL_law_896 dL_law_897 dL_law_899 dL_law_900 dL_law_901 ?_
      refine lw_arg (k := 2) G hL hpt hl (List.mem_of_getElem? (i := 0) rfl) (List.mem_of_getElem? (i := 4) rfl) (by decide) (by omega) dL_law_902 dL_law_903 dL_law_905 dL_law_906 dL_law_907 ?_
      refine lv_aload_n hx hb dL_law_908 rfl (lv_at hl 3 rfl) ?_
      refine lw_callW (n := 4) (As := [.ref ax, .int (xs (i + 1)), .int (xs (i + 2)), .ref qo]) (rest := []) (wx_history_2 (v := v) hls h1 hok.1.1 hf0) rfl G hpt (by rw [hax]) (xt4 38 rfl rfl) (xt4 36 rfl rfl) (xt4 37 rfl rfl) (xt1 0 rfl rfl) (by decide +kernel) rfl (by decide) hl.1 (Nat.le_of_ble_eq_true rfl) dL_law_909 hdd (by show _ ≤ 601024; omega) (by show _ ≤ 7293034; omega) (fun H1 locs1 w1 hag hpt => ?_)
      have hax1 : w1.1 x = ax := (hag x hok.1.1).1.trans hax
      have ham1 : w1.1 mm = am := (hag mm hok.2.1).1.trans ham
      refine lv_istore (lv' := (5, .int 1) :: [(0, .ref b), (1, .ref ax), (2, .ref am), (3, .ref qo), (4, .int (nI i))]) hx hb dL_law_912 hl (by decide) rfl (fun ls1 hl => ?_)
      refine lv_aload_n hx hb dL_law_914 rfl (lv_at hl 3 rfl) ?_
      refine lw_arg (k := 1) G hL hpt hl (List.mem_of_getElem? (i := 1) rfl) (List.mem_of_getElem? (i := 5) rfl) (by decide) (by omega) dL_law_915 dL_law_916 dL_law_918 dL_law_919 dL_law_920 ?_
      refine lw_arg (k := 2) G hL hpt hl (List.mem_of_getElem? (i := 1) rfl) (List.mem_of_getElem? (i := 5) rfl) (by decide) (by omega) dL_law_921 dL_law_922 dL_law_924 dL_law_925 dL_law_926 ?_
      refine lw_callM (is := [.int (xs (i + 1)), .int (xs (i + 2))]) (rest := []) h2 G hpt ham1 o1.2.1 hf1 rfl (by decide) (xok_ints [(xs (i + 1)), (xs (i + 2))]) rfl (xt5 134 rfl rfl) (xt5 135 rfl rfl) (xt5 136 rfl rfl) hl.1 (Nat.le_of_ble_eq_true rfl) dL_law_927 hdd (by show _ ≤ 601024; omega) (by show _ ≤ 7293034; omega) (fun H2 locs2 w2 hag2 hpt => ?_)
      have hax2 : w2.1 x = ax := (hag2 x o1.1.1).1.trans hax1
      have ham2 : w2.1 mm = am := (hag2 mm o1.2.1).1.trans ham1
      refine lv_istore (lv' := (6, .int b9) :: (5, .int 1) :: [(0, .ref b), (1, .ref ax), (2, .ref am), (3, .ref qo), (4, .int (nI i))]) hx hb dL_law_930 hl (by decide) rfl (fun ls2 hl => ?_)
      refine lv_aload_n hx hb dL_law_932 rfl (lv_at hl 4 rfl) ?_
      refine lw_callM (is := []) (rest := []) h3 G hpt ham2 o2.2.1 hf2 rfl (by decide) (xok_ints []) rfl (xt4 216 rfl rfl) (xt4 217 rfl rfl) (xt4 218 rfl rfl) hl.1 (Nat.le_of_ble_eq_true rfl) dL_law_933 hdd (by show _ ≤ 601024; omega) (by show _ ≤ 7293034; omega) (fun H3 locs3 w3 hag3 hpt => ?_)
      have hax3 : w3.1 x = ax := (hag3 x o2.1.1).1.trans hax2
      have ham3 : w3.1 mm = am := (hag3 mm o2.2.1).1.trans ham2
      refine lv_iload hx hb dL_law_936 (lv_at hl 1 rfl) ?_
      refine lv_icmp_eq (tgt := 943) hx hb dL_law_938 (by decide) (fun _ => ?_) (fun hne => absurd rfl hne)
      refine lv_iload hx hb dL_law_943 (lv_at hl 1 rfl) ?_
      refine lv_if_ne (tgt := 960) hx hb dL_law_945 (by decide) (fun _ => ?_) (fun hz0 => absurd hz0 (by decide))
      refine lv_goto (tgt := 1247) hx hb dL_law_960 (by decide) ?_
      exact lw_num (by omega) (by omega) (hk σ2 w3 _ H3 locs3 _ (t + 1) hI hax3 ham3 hpt (lv_sub hl [2, 3, 4, 5, 6] rfl) (by omega))
    cases hek
set_option maxHeartbeats 2000000 in
set_option maxRecDepth 100000 in
theorem lc_message {p : Program} {l : Launch} {e : Env} {s : State} {m : MethodId} {below : List Frame} {meth : Method} {c : Code} {Q : State → Prop} {D : va_G} {H : Heap} {locs : List Loc} {ls : Array Slot} {w : XW} {σ : XS} {qo ax am : Nat} {cL : ClassId} {v : Nat → Int64} {b L d x mm i t : Nat} {xs : Nat → Int32} {Inv : XS → Prop} (hls : l.stackTraces = false) (G : lwH p s m meth c b L xs) (hL : L ≤ 3072) (hi : i + 6 ≤ L) (hop : lwI d x mm 88 145 [.int (xs (i + 1)), .int (xs (i + 2)), .int (xs (i + 3))] [(2, 1), (0, 2)] Inv σ) (hok : lwOk x mm σ) (hbd : ∀ σ, Inv σ → σ.1 ≤ 2000 ∧ σ.2.1 ≤ 100000) (ht : t ≤ 3072) (hdd : d ≤ 1000) (hpt : lwPt D (lwA s) s H locs w σ qo cL v) (hax : w.1 x = ax) (ham : w.1 mm = am) (hl : lv_has ls 7 [(0, .ref b), (1, .ref ax), (2, .ref am), (3, .ref qo), (4, .int (nI i))])
    (hk : ∀ (σ' : XS) (w' : XW) (v' : Nat → Int64) (H' : Heap) (locs' : List Loc) (ls' : Array Slot) (t' : Nat), Inv σ' → w'.1 x = ax → w'.1 mm = am → lwPt D (lwA s) s H' locs' w' σ' qo cL v' → lv_has ls' 7 [(0, .ref b), (1, .ref ax), (2, .ref am), (3, .ref qo), (4, .int (nI i))] → t' ≤ t + 1 → W p l e room_1 s m #[Value.ref b] below meth c H' locs' (σ'.1 + 1 + t') (σ'.2.1 + 1 + 6 * t') Q (F0 m 1247 ls' [])) :
    W p l e room_1 s m #[Value.ref b] below meth c H locs (σ.1 + 1 + t) (σ.2.1 + 1 + 6 * t) Q (F0 m 963 ls []) := by
  obtain ⟨⟨hx, hb, hr, hml, hown, hts0, hX, hbl, hlocks, hgv⟩, hts, htn, hz, hnc⟩ := id G
  obtain ⟨fs0, hf0⟩ := hok.1.2
  rcases hop with ⟨N1, N2, N3, r, σ1, σ2, h1, o1, h2, o2, h3, hI⟩ | ⟨N1, N2, N3, E, k, b9, σ1, σ2, h1, hek, o1, h2, o2, h3, hI⟩
  · have q1 := xcall_mono _ _ _ _ _ _ h1
    have q2 := xcall_mono _ _ _ _ _ _ h2
    have q3 := hbd σ2 hI
    obtain ⟨fs1, hf1⟩ := o1.2.2
    obtain ⟨fs2, hf2⟩ := o2.2.2
    refine lv_aload_n hx hb dL_law_963 rfl (lv_at hl 1 rfl) ?_
    refine lw_arg (k := 1) G hL hpt hl (List.mem_of_getElem? (i := 0) rfl) (List.mem_of_getElem? (i := 4) rfl) (by decide) (by omega) dL_law_964 dL_law_965 dL_law_967 dL_law_968 dL_law_969 ?_
    refine lw_arg (k := 2) G hL hpt hl (List.mem_of_getElem? (i := 0) rfl) (List.mem_of_getElem? (i := 4) rfl) (by decide) (by omega) dL_law_970 dL_law_971 dL_law_973 dL_law_974 dL_law_975 ?_
    refine lw_arg (k := 3) G hL hpt hl (List.mem_of_getElem? (i := 0) rfl) (List.mem_of_getElem? (i := 4) rfl) (by decide) (by omega) dL_law_976 dL_law_977 dL_law_979 dL_law_980 dL_law_981 ?_
    refine lv_aload_n hx hb dL_law_982 rfl (lv_at hl 3 rfl) ?_
    refine lw_callW (n := 5) (As := [.ref ax, .int (xs (i + 1)), .int (xs (i + 2)), .int (xs (i + 3)), .ref qo]) (rest := []) (wn_message (v := v) h1 hok.1.1 hf0) rfl G hpt (by rw [hax]) (xt4 49 rfl rfl) (xt4 47 rfl rfl) (xt4 48 rfl rfl) (xt1 0 rfl rfl) (by decide +kernel) rfl (by decide) hl.1 (Nat.le_of_ble_eq_true rfl) dL_law_983 hdd (by show _ ≤ 601024; omega) (by show _ ≤ 7293034; omega) (fun H1 locs1 w1 hag hpt => ?_)
    have hax1 : w1.1 x = ax := (hag x hok.1.1).1.trans hax
    have ham1 : w1.1 mm = am := (hag mm hok.2.1).1.trans ham
    refine lv_istore (lv' := (5, .int 0) :: [(0, .ref b), (1, .ref ax), (2, .ref am), (3, .ref qo), (4, .int (nI i))]) hx hb dL_law_986 hl (by decide) rfl (fun ls1 hl => ?_)
    refine lv_aload_n hx hb dL_law_988 rfl (lv_at hl 3 rfl) ?_
    refine lw_arg (k := 1) G hL hpt hl (List.mem_of_getElem? (i := 1) rfl) (List.mem_of_getElem? (i := 5) rfl) (by decide) (by omega) dL_law_989 dL_law_990 dL_law_992 dL_law_993 dL_law_994 ?_
    refine lw_arg (k := 2) G hL hpt hl (List.mem_of_getElem? (i := 1) rfl) (List.mem_of_getElem? (i := 5) rfl) (by decide) (by omega) dL_law_995 dL_law_996 dL_law_998 dL_law_999 dL_law_1000 ?_
    refine lw_arg (k := 3) G hL hpt hl (List.mem_of_getElem? (i := 1) rfl) (List.mem_of_getElem? (i := 5) rfl) (by decide) (by omega) dL_law_1001 dL_law_1002 dL_law_1004 dL_law_1005 dL_law_1006 ?_
    refine lw_callM (is := [.int (xs (i + 1)), .int (xs (i + 2)), .int (xs (i + 3))]) (rest := []) h2 G hpt ham1 o1.2.1 hf1 rfl (by decide) (xok_ints [(xs (i + 1)), (xs (i + 2)), (xs (i + 3))]) rfl (xt5 138 rfl rfl) (xt5 139 rfl rfl) (xt5 140 rfl rfl) hl.1 (Nat.le_of_ble_eq_true rfl) dL_law_1007 hdd (by show _ ≤ 601024; omega) (by show _ ≤ 7293034; omega) (fun H2 locs2 w2 hag2 hpt => ?_)
    have hax2 : w2.1 x = ax := (hag2 x o1.1.1).1.trans hax1
    have ham2 : w2.1 mm = am := (hag2 mm o1.2.1).1.trans ham1
    refine lv_istore (lv' := (6, .int r) :: (5, .int 0) :: [(0, .ref b), (1, .ref ax), (2, .ref am), (3, .ref qo), (4, .int (nI i))]) hx hb dL_law_1010 hl (by decide) rfl (fun ls2 hl => ?_)
    refine lv_aload_n hx hb dL_law_1012 rfl (lv_at hl 4 rfl) ?_
    refine lw_callM (is := []) (rest := []) h3 G hpt ham2 o2.2.1 hf2 rfl (by decide) (xok_ints []) rfl (xt4 216 rfl rfl) (xt4 217 rfl rfl) (xt4 218 rfl rfl) hl.1 (Nat.le_of_ble_eq_true rfl) dL_law_1013 hdd (by show _ ≤ 601024; omega) (by show _ ≤ 7293034; omega) (fun H3 locs3 w3 hag3 hpt => ?_)
    have hax3 : w3.1 x = ax := (hag3 x o2.1.1).1.trans hax2
    have ham3 : w3.1 mm = am := (hag3 mm o2.2.1).1.trans ham2
    refine lv_iload hx hb dL_law_1016 (lv_at hl 1 rfl) ?_
    refine lv_icmp_eq (tgt := 1023) hx hb dL_law_1018 (by decide) (fun _ => ?_) (fun hne => absurd rfl hne)
    refine lv_iload hx hb dL_law_1023 (lv_at hl 1 rfl) ?_
    refine lv_if_ne (tgt := 1040) hx hb dL_law_1025 (by decide) (fun hne => absurd rfl hne) (fun _ => ?_)
    refine lv_aload_n hx hb dL_law_1028 rfl (lv_at hl 5 rfl) ?_
    refine lv_iconst (v := 0) hx hb dL_law_1029 (by decide) ?_
    refine lw_laload G hpt dL_law_1030 ?_
    rw [pk_uLs]
    refine lv_iload hx hb dL_law_1031 (lv_at hl 0 rfl) ?_
    refine lv_i2l hx hb dL_law_1033 rfl ?_
    refine W.lcmp hx hb dL_law_1034 ?_
    rw [lg_cmp_self]
    refine lv_if_eq (tgt := 1040) hx hb dL_law_1035 (by decide) (fun _ => ?_) (fun hne => absurd rfl hne)
    refine lv_goto (tgt := 1247) hx hb dL_law_1040 (by decide) ?_
    exact lw_num (by omega) (by omega) (hk σ2 w3 _ H3 locs3 _ t hI hax3 ham3 hpt (lv_sub hl [2, 3, 4, 5, 6] rfl) (by omega))
  · have q1 := xcallX_mono _ _ _ _ _ _ h1
    have q2 := xcall_mono _ _ _ _ _ _ h2
    have q3 := hbd σ2 hI
    obtain ⟨fs1, hf1⟩ := o1.2.2
    obtain ⟨fs2, hf2⟩ := o2.2.2
    rcases List.mem_cons.mp hek with hek | hek
    · cases hek
      refine lv_aload_n hx hb dL_law_963 rfl (lv_at hl 1 rfl) ?_
      refine lw_arg (k := 1) G hL hpt hl (List.mem_of_getElem? (i := 0) rfl) (List.mem_of_getElem? (i := 4) rfl) (by decide) (by omega) dL_law_964 dL_law_965 dL_law_967 dL_law_968 dL_law_969 ?_
      refine lw_arg (k := 2) G hL hpt hl (List.mem_of_getElem? (i := 0) rfl) (List.mem_of_getElem? (i := 4) rfl) (by decide) (by omega) dL_law_970 dL_law_971 dL_law_973 dL_law_974 dL_law_975 ?_
      refine lw_arg (k := 3) G hL hpt hl (List.mem_of_getElem? (i := 0) rfl) (List.mem_of_getElem? (i := 4) rfl) (by decide) (by omega) dL_law_976 dL_law_977 dL_law_979 dL_law_980 dL_law_981 ?_
      refine lv_aload_n hx hb dL_law_982 rfl (lv_at hl 3 rfl) ?_
      refine lw_callW (n := 5) (As := [.ref ax, .int (xs (i + 1)), .int (xs (i + 2)), .int (xs (i + 3)), .ref qo]) (rest := []) (wx_message_2 (v := v) hls h1 hok.1.1 hf0) rfl G hpt (by rw [hax]) (xt4 49 rfl rfl) (xt4 47 rfl rfl) (xt4 48 rfl rfl) (xt1 0 rfl rfl) (by decide +kernel) rfl (by decide) hl.1 (Nat.le_of_ble_eq_true rfl) dL_law_983 hdd (by show _ ≤ 601024; omega) (by show _ ≤ 7293034; omega) (fun H1 locs1 w1 hag hpt => ?_)
      have hax1 : w1.1 x = ax := (hag x hok.1.1).1.trans hax
      have ham1 : w1.1 mm = am := (hag mm hok.2.1).1.trans ham
      refine lv_istore (lv' := (5, .int 1) :: [(0, .ref b), (1, .ref ax), (2, .ref am), (3, .ref qo), (4, .int (nI i))]) hx hb dL_law_986 hl (by decide) rfl (fun ls1 hl => ?_)
      refine lv_aload_n hx hb dL_law_988 rfl (lv_at hl 3 rfl) ?_
      refine lw_arg (k := 1) G hL hpt hl (List.mem_of_getElem? (i := 1) rfl) (List.mem_of_getElem? (i := 5) rfl) (by decide) (by omega) dL_law_989 dL_law_990 dL_law_992 dL_law_993 dL_law_994 ?_
      refine lw_arg (k := 2) G hL hpt hl (List.mem_of_getElem? (i := 1) rfl) (List.mem_of_getElem? (i := 5) rfl) (by decide) (by omega) dL_law_995 dL_law_996 dL_law_998 dL_law_999 dL_law_1000 ?_
      refine lw_arg (k := 3) G hL hpt hl (List.mem_of_getElem? (i := 1) rfl) (List.mem_of_getElem? (i := 5) rfl) (by decide) (by omega) dL_law_1001 dL_law_1002 dL_law_1004 dL_law_1005 dL_law_1006 ?_
      refine lw_callM (is := [.int (xs (i + 1)), .int (xs (i + 2)), .int (xs (i + 3))]) (rest := []) h2 G hpt ham1 o1.2.1 hf1 rfl (by decide) (xok_ints [(xs (i + 1)), (xs (i + 2)), (xs (i + 3))]) rfl (xt5 138 rfl rfl) (xt5 139 rfl rfl) (xt5 140 rfl rfl) hl.1 (Nat.le_of_ble_eq_true rfl) dL_law_1007 hdd (by show _ ≤ 601024; omega) (by show _ ≤ 7293034; omega) (fun H2 locs2 w2 hag2 hpt => ?_)
      have hax2 : w2.1 x = ax := (hag2 x o1.1.1).1.trans hax1
      have ham2 : w2.1 mm = am := (hag2 mm o1.2.1).1.trans ham1
      refine lv_istore (lv' := (6, .int b9) :: (5, .int 1) :: [(0, .ref b), (1, .ref ax), (2, .ref am), (3, .ref qo), (4, .int (nI i))]) hx hb dL_law_1010 hl (by decide) rfl (fun ls2 hl => ?_)
      refine lv_aload_n hx hb dL_law_1012 rfl (lv_at hl 4 rfl) ?_
      refine lw_callM (is := []) (rest := []) h3 G hpt ham2 o2.2.1 hf2 rfl (by decide) (xok_ints []) rfl (xt4 216 rfl rfl) (xt4 217 rfl rfl) (xt4 218 rfl rfl) hl.1 (Nat.le_of_ble_eq_true rfl) dL_law_1013 hdd (by show _ ≤ 601024; omega) (by show _ ≤ 7293034; omega) (fun H3 locs3 w3 hag3 hpt => ?_)
      have hax3 : w3.1 x = ax := (hag3 x o2.1.1).1.trans hax2
      have ham3 : w3.1 mm = am := (hag3 mm o2.2.1).1.trans ham2
      refine lv_iload hx hb dL_law_1016 (lv_at hl 1 rfl) ?_
      refine lv_icmp_eq (tgt := 1023) hx hb dL_law_1018 (by decide) (fun _ => ?_) (fun hne => absurd rfl hne)
      refine lv_iload hx hb dL_law_1023 (lv_at hl 1 rfl) ?_
      refine lv_if_ne (tgt := 1040) hx hb dL_law_1025 (by decide) (fun _ => ?_) (fun hz0 => absurd hz0 (by decide))
      refine lv_goto (tgt := 1247) hx hb dL_law_1040 (by decide) ?_
      exact lw_num (by omega) (by omega) (hk σ2 w3 _ H3 locs3 _ (t + 1) hI hax3 ham3 hpt (lv_sub hl [2, 3, 4, 5, 6] rfl) (by omega))
    rcases List.mem_cons.mp hek with hek | hek
    · cases hek
      refine lv_aload_n hx hb dL_law_963 rfl (lv_at hl 1 rfl) ?_
      refine lw_arg (k := 1) G hL hpt hl (List.mem_of_getElem? (i := 0) rfl) (List.mem_of_getElem? (i := 4) rfl) (by decide) (by omega) dL_law_964 dL_law_965 dL_law_967 dL_law_968 dL_law_969 ?_
      refine lw_arg (k := 2) G hL hpt hl (List.mem_of_getElem? (i := 0) rfl) (List.mem_of_getElem? (i := 4) rfl) (by decide) (by omega) dL_law_970 dL_law_971 dL_law_973 dL_law_974 dL_law_975 ?_
      refine lw_arg (k := 3) G hL hpt hl (List.mem_of_getElem? (i := 0) rfl) (List.mem_of_getElem? (i := 4) rfl) (by decide) (by omega) dL_law_976 dL_law_977 dL_law_979 dL_law_980 dL_law_981 ?_
      refine lv_aload_n hx hb dL_law_982 rfl (lv_at hl 3 rfl) ?_
      refine lw_callW (n := 5) (As := [.ref ax, .int (xs (i + 1)), .int (xs (i + 2)), .int (xs (i + 3)), .ref qo]) (rest := []) (wx_message_0 (v := v) hls h1 hok.1.1 hf0) rfl G hpt (by rw [hax]) (xt4 49 rfl rfl) (xt4 47 rfl rfl) (xt4 48 rfl rfl) (xt1 0 rfl rfl) (by decide +kernel) rfl (by decide) hl.1 (Nat.le_of_ble_eq_true rfl) dL_law_983 hdd (by show _ ≤ 601024; omega) (by show _ ≤ 7293034; omega) (fun H1 locs1 w1 hag hpt => ?_)
      have hax1 : w1.1 x = ax := (hag x hok.1.1).1.trans hax
      have ham1 : w1.1 mm = am := (hag mm hok.2.1).1.trans ham
      refine lv_istore (lv' := (5, .int 2) :: [(0, .ref b), (1, .ref ax), (2, .ref am), (3, .ref qo), (4, .int (nI i))]) hx hb dL_law_986 hl (by decide) rfl (fun ls1 hl => ?_)
      refine lv_aload_n hx hb dL_law_988 rfl (lv_at hl 3 rfl) ?_
      refine lw_arg (k := 1) G hL hpt hl (List.mem_of_getElem? (i := 1) rfl) (List.mem_of_getElem? (i := 5) rfl) (by decide) (by omega) dL_law_989 dL_law_990 dL_law_992 dL_law_993 dL_law_994 ?_
      refine lw_arg (k := 2) G hL hpt hl (List.mem_of_getElem? (i := 1) rfl) (List.mem_of_getElem? (i := 5) rfl) (by decide) (by omega) dL_law_995 dL_law_996 dL_law_998 dL_law_999 dL_law_1000 ?_
      refine lw_arg (k := 3) G hL hpt hl (List.mem_of_getElem? (i := 1) rfl) (List.mem_of_getElem? (i := 5) rfl) (by decide) (by omega) dL_law_1001 dL_law_1002 dL_law_1004 dL_law_1005 dL_law_1006 ?_
      refine lw_callM (is := [.int (xs (i + 1)), .int (xs (i + 2)), .int (xs (i + 3))]) (rest := []) h2 G hpt ham1 o1.2.1 hf1 rfl (by decide) (xok_ints [(xs (i + 1)), (xs (i + 2)), (xs (i + 3))]) rfl (xt5 138 rfl rfl) (xt5 139 rfl rfl) (xt5 140 rfl rfl) hl.1 (Nat.le_of_ble_eq_true rfl) dL_law_1007 hdd (by show _ ≤ 601024; omega) (by show _ ≤ 7293034; omega) (fun H2 locs2 w2 hag2 hpt => ?_)
      have hax2 : w2.1 x = ax := (hag2 x o1.1.1).1.trans hax1
      have ham2 : w2.1 mm = am := (hag2 mm o1.2.1).1.trans ham1
      refine lv_istore (lv' := (6, .int b9) :: (5, .int 2) :: [(0, .ref b), (1, .ref ax), (2, .ref am), (3, .ref qo), (4, .int (nI i))]) hx hb dL_law_1010 hl (by decide) rfl (fun ls2 hl => ?_)
      refine lv_aload_n hx hb dL_law_1012 rfl (lv_at hl 4 rfl) ?_
      refine lw_callM (is := []) (rest := []) h3 G hpt ham2 o2.2.1 hf2 rfl (by decide) (xok_ints []) rfl (xt4 216 rfl rfl) (xt4 217 rfl rfl) (xt4 218 rfl rfl) hl.1 (Nat.le_of_ble_eq_true rfl) dL_law_1013 hdd (by show _ ≤ 601024; omega) (by show _ ≤ 7293034; omega) (fun H3 locs3 w3 hag3 hpt => ?_)
      have hax3 : w3.1 x = ax := (hag3 x o2.1.1).1.trans hax2
      have ham3 : w3.1 mm = am := (hag3 mm o2.2.1).1.trans ham2
      refine lv_iload hx hb dL_law_1016 (lv_at hl 1 rfl) ?_
      refine lv_icmp_eq (tgt := 1023) hx hb dL_law_1018 (by decide) (fun _ => ?_) (fun hne => absurd rfl hne)
      refine lv_iload hx hb dL_law_1023 (lv_at hl 1 rfl) ?_
      refine lv_if_ne (tgt := 1040) hx hb dL_law_1025 (by decide) (fun _ => ?_) (fun hz0 => absurd hz0 (by decide))
      refine lv_goto (tgt := 1247) hx hb dL_law_1040 (by decide) ?_
      exact lw_num (by omega) (by omega) (hk σ2 w3 _ H3 locs3 _ (t + 1) hI hax3 ham3 hpt (lv_sub hl [2, 3, 4, 5, 6] rfl) (by omega))
    cases hek
set_option maxHeartbeats 2000000 in
set_option maxRecDepth 100000 in
theorem lc_row {p : Program} {l : Launch} {e : Env} {s : State} {m : MethodId} {below : List Frame} {meth : Method} {c : Code} {Q : State → Prop} {D : va_G} {H : Heap} {locs : List Loc} {ls : Array Slot} {w : XW} {σ : XS} {qo ax am : Nat} {cL : ClassId} {v : Nat → Int64} {b L d x mm i t : Nat} {xs : Nat → Int32} {Inv : XS → Prop} (hls : l.stackTraces = false) (G : lwH p s m meth c b L xs) (hL : L ≤ 3072) (hi : i + 6 ≤ L) (hop : lwI d x mm 89 146 [.int (xs (i + 1)), .int (xs (i + 2))] [(0, 1)] Inv σ) (hok : lwOk x mm σ) (hbd : ∀ σ, Inv σ → σ.1 ≤ 2000 ∧ σ.2.1 ≤ 100000) (ht : t ≤ 3072) (hdd : d ≤ 1000) (hpt : lwPt D (lwA s) s H locs w σ qo cL v) (hax : w.1 x = ax) (ham : w.1 mm = am) (hl : lv_has ls 7 [(0, .ref b), (1, .ref ax), (2, .ref am), (3, .ref qo), (4, .int (nI i))])
    (hk : ∀ (σ' : XS) (w' : XW) (v' : Nat → Int64) (H' : Heap) (locs' : List Loc) (ls' : Array Slot) (t' : Nat), Inv σ' → w'.1 x = ax → w'.1 mm = am → lwPt D (lwA s) s H' locs' w' σ' qo cL v' → lv_has ls' 7 [(0, .ref b), (1, .ref ax), (2, .ref am), (3, .ref qo), (4, .int (nI i))] → t' ≤ t + 1 → W p l e room_1 s m #[Value.ref b] below meth c H' locs' (σ'.1 + 1 + t') (σ'.2.1 + 1 + 6 * t') Q (F0 m 1247 ls' [])) :
    W p l e room_1 s m #[Value.ref b] below meth c H locs (σ.1 + 1 + t) (σ.2.1 + 1 + 6 * t) Q (F0 m 1043 ls []) := by
  obtain ⟨⟨hx, hb, hr, hml, hown, hts0, hX, hbl, hlocks, hgv⟩, hts, htn, hz, hnc⟩ := id G
  obtain ⟨fs0, hf0⟩ := hok.1.2
  rcases hop with ⟨N1, N2, N3, r, σ1, σ2, h1, o1, h2, o2, h3, hI⟩ | ⟨N1, N2, N3, E, k, b9, σ1, σ2, h1, hek, o1, h2, o2, h3, hI⟩
  · have q1 := xcall_mono _ _ _ _ _ _ h1
    have q2 := xcall_mono _ _ _ _ _ _ h2
    have q3 := hbd σ2 hI
    obtain ⟨fs1, hf1⟩ := o1.2.2
    obtain ⟨fs2, hf2⟩ := o2.2.2
    refine lv_aload_n hx hb dL_law_1043 rfl (lv_at hl 1 rfl) ?_
    refine lw_arg (k := 1) G hL hpt hl (List.mem_of_getElem? (i := 0) rfl) (List.mem_of_getElem? (i := 4) rfl) (by decide) (by omega) dL_law_1044 dL_law_1045 dL_law_1047 dL_law_1048 dL_law_1049 ?_
    refine lw_arg (k := 2) G hL hpt hl (List.mem_of_getElem? (i := 0) rfl) (List.mem_of_getElem? (i := 4) rfl) (by decide) (by omega) dL_law_1050 dL_law_1051 dL_law_1053 dL_law_1054 dL_law_1055 ?_
    refine lv_aload_n hx hb dL_law_1056 rfl (lv_at hl 3 rfl) ?_
    refine lw_callW (n := 4) (As := [.ref ax, .int (xs (i + 1)), .int (xs (i + 2)), .ref qo]) (rest := []) (wn_row (v := v) h1 hok.1.1 hf0) rfl G hpt (by rw [hax]) (xt4 58 rfl rfl) (xt4 56 rfl rfl) (xt4 57 rfl rfl) (xt1 0 rfl rfl) (by decide +kernel) rfl (by decide) hl.1 (Nat.le_of_ble_eq_true rfl) dL_law_1057 hdd (by show _ ≤ 601024; omega) (by show _ ≤ 7293034; omega) (fun H1 locs1 w1 hag hpt => ?_)
    have hax1 : w1.1 x = ax := (hag x hok.1.1).1.trans hax
    have ham1 : w1.1 mm = am := (hag mm hok.2.1).1.trans ham
    refine lv_istore (lv' := (5, .int 0) :: [(0, .ref b), (1, .ref ax), (2, .ref am), (3, .ref qo), (4, .int (nI i))]) hx hb dL_law_1060 hl (by decide) rfl (fun ls1 hl => ?_)
    refine lv_aload_n hx hb dL_law_1062 rfl (lv_at hl 3 rfl) ?_
    refine lw_arg (k := 1) G hL hpt hl (List.mem_of_getElem? (i := 1) rfl) (List.mem_of_getElem? (i := 5) rfl) (by decide) (by omega) dL_law_1063 dL_law_1064 dL_law_1066 dL_law_1067 dL_law_1068 ?_
    refine lw_arg (k := 2) G hL hpt hl (List.mem_of_getElem? (i := 1) rfl) (List.mem_of_getElem? (i := 5) rfl) (by decide) (by omega) dL_law_1069 dL_law_1070 dL_law_1072 dL_law_1073 dL_law_1074 ?_
    refine lw_callM (is := [.int (xs (i + 1)), .int (xs (i + 2))]) (rest := []) h2 G hpt ham1 o1.2.1 hf1 rfl (by decide) (xok_ints [(xs (i + 1)), (xs (i + 2))]) rfl (xt5 142 rfl rfl) (xt5 143 rfl rfl) (xt5 144 rfl rfl) hl.1 (Nat.le_of_ble_eq_true rfl) dL_law_1075 hdd (by show _ ≤ 601024; omega) (by show _ ≤ 7293034; omega) (fun H2 locs2 w2 hag2 hpt => ?_)
    have hax2 : w2.1 x = ax := (hag2 x o1.1.1).1.trans hax1
    have ham2 : w2.1 mm = am := (hag2 mm o1.2.1).1.trans ham1
    refine lv_istore (lv' := (6, .int r) :: (5, .int 0) :: [(0, .ref b), (1, .ref ax), (2, .ref am), (3, .ref qo), (4, .int (nI i))]) hx hb dL_law_1078 hl (by decide) rfl (fun ls2 hl => ?_)
    refine lv_aload_n hx hb dL_law_1080 rfl (lv_at hl 4 rfl) ?_
    refine lw_callM (is := []) (rest := []) h3 G hpt ham2 o2.2.1 hf2 rfl (by decide) (xok_ints []) rfl (xt4 216 rfl rfl) (xt4 217 rfl rfl) (xt4 218 rfl rfl) hl.1 (Nat.le_of_ble_eq_true rfl) dL_law_1081 hdd (by show _ ≤ 601024; omega) (by show _ ≤ 7293034; omega) (fun H3 locs3 w3 hag3 hpt => ?_)
    have hax3 : w3.1 x = ax := (hag3 x o2.1.1).1.trans hax2
    have ham3 : w3.1 mm = am := (hag3 mm o2.2.1).1.trans ham2
    refine lv_iload hx hb dL_law_1084 (lv_at hl 1 rfl) ?_
    refine lv_icmp_eq (tgt := 1091) hx hb dL_law_1086 (by decide) (fun _ => ?_) (fun hne => absurd rfl hne)
    refine lv_iload hx hb dL_law_1091 (lv_at hl 1 rfl) ?_
    refine lv_if_ne (tgt := 1108) hx hb dL_law_1093 (by decide) (fun hne => absurd rfl hne) (fun _ => ?_)
    refine lv_aload_n hx hb dL_law_1096 rfl (lv_at hl 5 rfl) ?_
    refine lv_iconst (v := 0) hx hb dL_law_1097 (by decide) ?_
    refine lw_laload G hpt dL_law_1098 ?_
    rw [pk_uLs]
    refine lv_iload hx hb dL_law_1099 (lv_at hl 0 rfl) ?_
    refine lv_i2l hx hb dL_law_1101 rfl ?_
    refine W.lcmp hx hb dL_law_1102 ?_
    rw [lg_cmp_self]
    refine lv_if_eq (tgt := 1108) hx hb dL_law_1103 (by decide) (fun _ => ?_) (fun hne => absurd rfl hne)
    refine lv_goto (tgt := 1247) hx hb dL_law_1108 (by decide) ?_
    exact lw_num (by omega) (by omega) (hk σ2 w3 _ H3 locs3 _ t hI hax3 ham3 hpt (lv_sub hl [2, 3, 4, 5, 6] rfl) (by omega))
  · have q1 := xcallX_mono _ _ _ _ _ _ h1
    have q2 := xcall_mono _ _ _ _ _ _ h2
    have q3 := hbd σ2 hI
    obtain ⟨fs1, hf1⟩ := o1.2.2
    obtain ⟨fs2, hf2⟩ := o2.2.2
    rcases List.mem_cons.mp hek with hek | hek
    · cases hek
      refine lv_aload_n hx hb dL_law_1043 rfl (lv_at hl 1 rfl) ?_
      refine lw_arg (k := 1) G hL hpt hl (List.mem_of_getElem? (i := 0) rfl) (List.mem_of_getElem? (i := 4) rfl) (by decide) (by omega) dL_law_1044 dL_law_1045 dL_law_1047 dL_law_1048 dL_law_1049 ?_
      refine lw_arg (k := 2) G hL hpt hl (List.mem_of_getElem? (i := 0) rfl) (List.mem_of_getElem? (i := 4) rfl) (by decide) (by omega) dL_law_1050 dL_law_1051 dL_law_1053 dL_law_1054 dL_law_1055 ?_
      refine lv_aload_n hx hb dL_law_1056 rfl (lv_at hl 3 rfl) ?_
      refine lw_callW (n := 4) (As := [.ref ax, .int (xs (i + 1)), .int (xs (i + 2)), .ref qo]) (rest := []) (wx_row_0 (v := v) hls h1 hok.1.1 hf0) rfl G hpt (by rw [hax]) (xt4 58 rfl rfl) (xt4 56 rfl rfl) (xt4 57 rfl rfl) (xt1 0 rfl rfl) (by decide +kernel) rfl (by decide) hl.1 (Nat.le_of_ble_eq_true rfl) dL_law_1057 hdd (by show _ ≤ 601024; omega) (by show _ ≤ 7293034; omega) (fun H1 locs1 w1 hag hpt => ?_)
      have hax1 : w1.1 x = ax := (hag x hok.1.1).1.trans hax
      have ham1 : w1.1 mm = am := (hag mm hok.2.1).1.trans ham
      refine lv_istore (lv' := (5, .int 1) :: [(0, .ref b), (1, .ref ax), (2, .ref am), (3, .ref qo), (4, .int (nI i))]) hx hb dL_law_1060 hl (by decide) rfl (fun ls1 hl => ?_)
      refine lv_aload_n hx hb dL_law_1062 rfl (lv_at hl 3 rfl) ?_
      refine lw_arg (k := 1) G hL hpt hl (List.mem_of_getElem? (i := 1) rfl) (List.mem_of_getElem? (i := 5) rfl) (by decide) (by omega) dL_law_1063 dL_law_1064 dL_law_1066 dL_law_1067 dL_law_1068 ?_
      refine lw_arg (k := 2) G hL hpt hl (List.mem_of_getElem? (i := 1) rfl) (List.mem_of_getElem? (i := 5) rfl) (by decide) (by omega) dL_law_1069 dL_law_1070 dL_law_1072 dL_law_1073 dL_law_1074 ?_
      refine lw_callM (is := [.int (xs (i + 1)), .int (xs (i + 2))]) (rest := []) h2 G hpt ham1 o1.2.1 hf1 rfl (by decide) (xok_ints [(xs (i + 1)), (xs (i + 2))]) rfl (xt5 142 rfl rfl) (xt5 143 rfl rfl) (xt5 144 rfl rfl) hl.1 (Nat.le_of_ble_eq_true rfl) dL_law_1075 hdd (by show _ ≤ 601024; omega) (by show _ ≤ 7293034; omega) (fun H2 locs2 w2 hag2 hpt => ?_)
      have hax2 : w2.1 x = ax := (hag2 x o1.1.1).1.trans hax1
      have ham2 : w2.1 mm = am := (hag2 mm o1.2.1).1.trans ham1
      refine lv_istore (lv' := (6, .int b9) :: (5, .int 1) :: [(0, .ref b), (1, .ref ax), (2, .ref am), (3, .ref qo), (4, .int (nI i))]) hx hb dL_law_1078 hl (by decide) rfl (fun ls2 hl => ?_)
      refine lv_aload_n hx hb dL_law_1080 rfl (lv_at hl 4 rfl) ?_
      refine lw_callM (is := []) (rest := []) h3 G hpt ham2 o2.2.1 hf2 rfl (by decide) (xok_ints []) rfl (xt4 216 rfl rfl) (xt4 217 rfl rfl) (xt4 218 rfl rfl) hl.1 (Nat.le_of_ble_eq_true rfl) dL_law_1081 hdd (by show _ ≤ 601024; omega) (by show _ ≤ 7293034; omega) (fun H3 locs3 w3 hag3 hpt => ?_)
      have hax3 : w3.1 x = ax := (hag3 x o2.1.1).1.trans hax2
      have ham3 : w3.1 mm = am := (hag3 mm o2.2.1).1.trans ham2
      refine lv_iload hx hb dL_law_1084 (lv_at hl 1 rfl) ?_
      refine lv_icmp_eq (tgt := 1091) hx hb dL_law_1086 (by decide) (fun _ => ?_) (fun hne => absurd rfl hne)
      refine lv_iload hx hb dL_law_1091 (lv_at hl 1 rfl) ?_
      refine lv_if_ne (tgt := 1108) hx hb dL_law_1093 (by decide) (fun _ => ?_) (fun hz0 => absurd hz0 (by decide))
      refine lv_goto (tgt := 1247) hx hb dL_law_1108 (by decide) ?_
      exact lw_num (by omega) (by omega) (hk σ2 w3 _ H3 locs3 _ (t + 1) hI hax3 ham3 hpt (lv_sub hl [2, 3, 4, 5, 6] rfl) (by omega))
    cases hek
set_option maxHeartbeats 2000000 in
set_option maxRecDepth 100000 in
theorem lc_told {p : Program} {l : Launch} {e : Env} {s : State} {m : MethodId} {below : List Frame} {meth : Method} {c : Code} {Q : State → Prop} {D : va_G} {H : Heap} {locs : List Loc} {ls : Array Slot} {w : XW} {σ : XS} {qo ax am : Nat} {cL : ClassId} {v : Nat → Int64} {b L d x mm i t : Nat} {xs : Nat → Int32} {Inv : XS → Prop} (hls : l.stackTraces = false) (G : lwH p s m meth c b L xs) (hL : L ≤ 3072) (hi : i + 6 ≤ L) (hop : lwI d x mm 90 147 [.int (xs (i + 1)), .int (xs (i + 2))] [(2, 1), (0, 2)] Inv σ) (hok : lwOk x mm σ) (hbd : ∀ σ, Inv σ → σ.1 ≤ 2000 ∧ σ.2.1 ≤ 100000) (ht : t ≤ 3072) (hdd : d ≤ 1000) (hpt : lwPt D (lwA s) s H locs w σ qo cL v) (hax : w.1 x = ax) (ham : w.1 mm = am) (hl : lv_has ls 7 [(0, .ref b), (1, .ref ax), (2, .ref am), (3, .ref qo), (4, .int (nI i))])
    (hk : ∀ (σ' : XS) (w' : XW) (v' : Nat → Int64) (H' : Heap) (locs' : List Loc) (ls' : Array Slot) (t' : Nat), Inv σ' → w'.1 x = ax → w'.1 mm = am → lwPt D (lwA s) s H' locs' w' σ' qo cL v' → lv_has ls' 7 [(0, .ref b), (1, .ref ax), (2, .ref am), (3, .ref qo), (4, .int (nI i))] → t' ≤ t + 1 → W p l e room_1 s m #[Value.ref b] below meth c H' locs' (σ'.1 + 1 + t') (σ'.2.1 + 1 + 6 * t') Q (F0 m 1247 ls' [])) :
    W p l e room_1 s m #[Value.ref b] below meth c H locs (σ.1 + 1 + t) (σ.2.1 + 1 + 6 * t) Q (F0 m 1111 ls []) := by
  obtain ⟨⟨hx, hb, hr, hml, hown, hts0, hX, hbl, hlocks, hgv⟩, hts, htn, hz, hnc⟩ := id G
  obtain ⟨fs0, hf0⟩ := hok.1.2
  rcases hop with ⟨N1, N2, N3, r, σ1, σ2, h1, o1, h2, o2, h3, hI⟩ | ⟨N1, N2, N3, E, k, b9, σ1, σ2, h1, hek, o1, h2, o2, h3, hI⟩
  · have q1 := xcall_mono _ _ _ _ _ _ h1
    have q2 := xcall_mono _ _ _ _ _ _ h2
    have q3 := hbd σ2 hI
    obtain ⟨fs1, hf1⟩ := o1.2.2
    obtain ⟨fs2, hf2⟩ := o2.2.2
    refine lv_aload_n hx hb dL_law_1111 rfl (lv_at hl 1 rfl) ?_
    refine lw_arg (k := 1) G hL hpt hl (List.mem_of_getElem? (i := 0) rfl) (List.mem_of_getElem? (i := 4) rfl) (by decide) (by omega) dL_law_1112 dL_law_1113 dL_law_1115 dL_law_1116 dL_law_1117 ?_
    refine lw_arg (k := 2) G hL hpt hl (List.mem_of_getElem? (i := 0) rfl) (List.mem_of_getElem? (i := 4) rfl) (by decide) (by omega) dL_law_1118 dL_law_1119 dL_law_1121 dL_law_1122 dL_law_1123 ?_
    refine lv_aload_n hx hb dL_law_1124 rfl (lv_at hl 3 rfl) ?_
    refine lw_callW (n := 4) (As := [.ref ax, .int (xs (i + 1)), .int (xs (i + 2)), .ref qo]) (rest := []) (wn_told (v := v) h1 hok.1.1 hf0) rfl G hpt (by rw [hax]) (xt4 66 rfl rfl) (xt4 64 rfl rfl) (xt4 65 rfl rfl) (xt1 0 rfl rfl) (by decide +kernel) rfl (by decide) hl.1 (Nat.le_of_ble_eq_true rfl) dL_law_1125 hdd (by show _ ≤ 601024; omega) (by show _ ≤ 7293034; omega) (fun H1 locs1 w1 hag hpt => ?_)
    have hax1 : w1.1 x = ax := (hag x hok.1.1).1.trans hax
    have ham1 : w1.1 mm = am := (hag mm hok.2.1).1.trans ham
    refine lv_istore (lv' := (5, .int 0) :: [(0, .ref b), (1, .ref ax), (2, .ref am), (3, .ref qo), (4, .int (nI i))]) hx hb dL_law_1128 hl (by decide) rfl (fun ls1 hl => ?_)
    refine lv_aload_n hx hb dL_law_1130 rfl (lv_at hl 3 rfl) ?_
    refine lw_arg (k := 1) G hL hpt hl (List.mem_of_getElem? (i := 1) rfl) (List.mem_of_getElem? (i := 5) rfl) (by decide) (by omega) dL_law_1131 dL_law_1132 dL_law_1134 dL_law_1135 dL_law_1136 ?_
    refine lw_arg (k := 2) G hL hpt hl (List.mem_of_getElem? (i := 1) rfl) (List.mem_of_getElem? (i := 5) rfl) (by decide) (by omega) dL_law_1137 dL_law_1138 dL_law_1140 dL_law_1141 dL_law_1142 ?_
    refine lw_callM (is := [.int (xs (i + 1)), .int (xs (i + 2))]) (rest := []) h2 G hpt ham1 o1.2.1 hf1 rfl (by decide) (xok_ints [(xs (i + 1)), (xs (i + 2))]) rfl (xt5 146 rfl rfl) (xt5 147 rfl rfl) (xt5 148 rfl rfl) hl.1 (Nat.le_of_ble_eq_true rfl) dL_law_1143 hdd (by show _ ≤ 601024; omega) (by show _ ≤ 7293034; omega) (fun H2 locs2 w2 hag2 hpt => ?_)
    have hax2 : w2.1 x = ax := (hag2 x o1.1.1).1.trans hax1
    have ham2 : w2.1 mm = am := (hag2 mm o1.2.1).1.trans ham1
    refine lv_istore (lv' := (6, .int r) :: (5, .int 0) :: [(0, .ref b), (1, .ref ax), (2, .ref am), (3, .ref qo), (4, .int (nI i))]) hx hb dL_law_1146 hl (by decide) rfl (fun ls2 hl => ?_)
    refine lv_aload_n hx hb dL_law_1148 rfl (lv_at hl 4 rfl) ?_
    refine lw_callM (is := []) (rest := []) h3 G hpt ham2 o2.2.1 hf2 rfl (by decide) (xok_ints []) rfl (xt4 216 rfl rfl) (xt4 217 rfl rfl) (xt4 218 rfl rfl) hl.1 (Nat.le_of_ble_eq_true rfl) dL_law_1149 hdd (by show _ ≤ 601024; omega) (by show _ ≤ 7293034; omega) (fun H3 locs3 w3 hag3 hpt => ?_)
    have hax3 : w3.1 x = ax := (hag3 x o2.1.1).1.trans hax2
    have ham3 : w3.1 mm = am := (hag3 mm o2.2.1).1.trans ham2
    refine lv_iload hx hb dL_law_1152 (lv_at hl 1 rfl) ?_
    refine lv_icmp_eq (tgt := 1159) hx hb dL_law_1154 (by decide) (fun _ => ?_) (fun hne => absurd rfl hne)
    refine lv_iload hx hb dL_law_1159 (lv_at hl 1 rfl) ?_
    refine lv_if_ne (tgt := 1176) hx hb dL_law_1161 (by decide) (fun hne => absurd rfl hne) (fun _ => ?_)
    refine lv_aload_n hx hb dL_law_1164 rfl (lv_at hl 5 rfl) ?_
    refine lv_iconst (v := 0) hx hb dL_law_1165 (by decide) ?_
    refine lw_laload G hpt dL_law_1166 ?_
    rw [pk_uLs]
    refine lv_iload hx hb dL_law_1167 (lv_at hl 0 rfl) ?_
    refine lv_i2l hx hb dL_law_1169 rfl ?_
    refine W.lcmp hx hb dL_law_1170 ?_
    rw [lg_cmp_self]
    refine lv_if_eq (tgt := 1176) hx hb dL_law_1171 (by decide) (fun _ => ?_) (fun hne => absurd rfl hne)
    refine lv_goto (tgt := 1247) hx hb dL_law_1176 (by decide) ?_
    exact lw_num (by omega) (by omega) (hk σ2 w3 _ H3 locs3 _ t hI hax3 ham3 hpt (lv_sub hl [2, 3, 4, 5, 6] rfl) (by omega))
  · have q1 := xcallX_mono _ _ _ _ _ _ h1
    have q2 := xcall_mono _ _ _ _ _ _ h2
    have q3 := hbd σ2 hI
    obtain ⟨fs1, hf1⟩ := o1.2.2
    obtain ⟨fs2, hf2⟩ := o2.2.2
    rcases List.mem_cons.mp hek with hek | hek
    · cases hek
      refine lv_aload_n hx hb dL_law_1111 rfl (lv_at hl 1 rfl) ?_
      refine lw_arg (k := 1) G hL hpt hl (List.mem_of_getElem? (i := 0) rfl) (List.mem_of_getElem? (i := 4) rfl) (by decide) (by omega) dL_law_1112 dL_law_1113 dL_law_1115 dL_law_1116 dL_law_1117 ?_
      refine lw_arg (k := 2) G hL hpt hl (List.mem_of_getElem? (i := 0) rfl) (List.mem_of_getElem? (i := 4) rfl) (by decide) (by omega) dL_law_1118 dL_law_1119 dL_law_1121 dL_law_1122 dL_law_1123 ?_
      refine lv_aload_n hx hb dL_law_1124 rfl (lv_at hl 3 rfl) ?_
      refine lw_callW (n := 4) (As := [.ref ax, .int (xs (i + 1)), .int (xs (i + 2)), .ref qo]) (rest := []) (wx_told_2 (v := v) hls h1 hok.1.1 hf0) rfl G hpt (by rw [hax]) (xt4 66 rfl rfl) (xt4 64 rfl rfl) (xt4 65 rfl rfl) (xt1 0 rfl rfl) (by decide +kernel) rfl (by decide) hl.1 (Nat.le_of_ble_eq_true rfl) dL_law_1125 hdd (by show _ ≤ 601024; omega) (by show _ ≤ 7293034; omega) (fun H1 locs1 w1 hag hpt => ?_)
      have hax1 : w1.1 x = ax := (hag x hok.1.1).1.trans hax
      have ham1 : w1.1 mm = am := (hag mm hok.2.1).1.trans ham
      refine lv_istore (lv' := (5, .int 1) :: [(0, .ref b), (1, .ref ax), (2, .ref am), (3, .ref qo), (4, .int (nI i))]) hx hb dL_law_1128 hl (by decide) rfl (fun ls1 hl => ?_)
      refine lv_aload_n hx hb dL_law_1130 rfl (lv_at hl 3 rfl) ?_
      refine lw_arg (k := 1) G hL hpt hl (List.mem_of_getElem? (i := 1) rfl) (List.mem_of_getElem? (i := 5) rfl) (by decide) (by omega) dL_law_1131 dL_law_1132 dL_law_1134 dL_law_1135 dL_law_1136 ?_
      refine lw_arg (k := 2) G hL hpt hl (List.mem_of_getElem? (i := 1) rfl) (List.mem_of_getElem? (i := 5) rfl) (by decide) (by omega) dL_law_1137 dL_law_1138 dL_law_1140 dL_law_1141 dL_law_1142 ?_
      refine lw_callM (is := [.int (xs (i + 1)), .int (xs (i + 2))]) (rest := []) h2 G hpt ham1 o1.2.1 hf1 rfl (by decide) (xok_ints [(xs (i + 1)), (xs (i + 2))]) rfl (xt5 146 rfl rfl) (xt5 147 rfl rfl) (xt5 148 rfl rfl) hl.1 (Nat.le_of_ble_eq_true rfl) dL_law_1143 hdd (by show _ ≤ 601024; omega) (by show _ ≤ 7293034; omega) (fun H2 locs2 w2 hag2 hpt => ?_)
      have hax2 : w2.1 x = ax := (hag2 x o1.1.1).1.trans hax1
      have ham2 : w2.1 mm = am := (hag2 mm o1.2.1).1.trans ham1
      refine lv_istore (lv' := (6, .int b9) :: (5, .int 1) :: [(0, .ref b), (1, .ref ax), (2, .ref am), (3, .ref qo), (4, .int (nI i))]) hx hb dL_law_1146 hl (by decide) rfl (fun ls2 hl => ?_)
      refine lv_aload_n hx hb dL_law_1148 rfl (lv_at hl 4 rfl) ?_
      refine lw_callM (is := []) (rest := []) h3 G hpt ham2 o2.2.1 hf2 rfl (by decide) (xok_ints []) rfl (xt4 216 rfl rfl) (xt4 217 rfl rfl) (xt4 218 rfl rfl) hl.1 (Nat.le_of_ble_eq_true rfl) dL_law_1149 hdd (by show _ ≤ 601024; omega) (by show _ ≤ 7293034; omega) (fun H3 locs3 w3 hag3 hpt => ?_)
      have hax3 : w3.1 x = ax := (hag3 x o2.1.1).1.trans hax2
      have ham3 : w3.1 mm = am := (hag3 mm o2.2.1).1.trans ham2
      refine lv_iload hx hb dL_law_1152 (lv_at hl 1 rfl) ?_
      refine lv_icmp_eq (tgt := 1159) hx hb dL_law_1154 (by decide) (fun _ => ?_) (fun hne => absurd rfl hne)
      refine lv_iload hx hb dL_law_1159 (lv_at hl 1 rfl) ?_
      refine lv_if_ne (tgt := 1176) hx hb dL_law_1161 (by decide) (fun _ => ?_) (fun hz0 => absurd hz0 (by decide))
      refine lv_goto (tgt := 1247) hx hb dL_law_1176 (by decide) ?_
      exact lw_num (by omega) (by omega) (hk σ2 w3 _ H3 locs3 _ (t + 1) hI hax3 ham3 hpt (lv_sub hl [2, 3, 4, 5, 6] rfl) (by omega))
    rcases List.mem_cons.mp hek with hek | hek
    · cases hek
      refine lv_aload_n hx hb dL_law_1111 rfl (lv_at hl 1 rfl) ?_
      refine lw_arg (k := 1) G hL hpt hl (List.mem_of_getElem? (i := 0) rfl) (List.mem_of_getElem? (i := 4) rfl) (by decide) (by omega) dL_law_1112 dL_law_1113 dL_law_1115 dL_law_1116 dL_law_1117 ?_
      refine lw_arg (k := 2) G hL hpt hl (List.mem_of_getElem? (i := 0) rfl) (List.mem_of_getElem? (i := 4) rfl) (by decide) (by omega) dL_law_1118 dL_law_1119 dL_law_1121 dL_law_1122 dL_law_1123 ?_
      refine lv_aload_n hx hb dL_law_1124 rfl (lv_at hl 3 rfl) ?_
      refine lw_callW (n := 4) (As := [.ref ax, .int (xs (i + 1)), .int (xs (i + 2)), .ref qo]) (rest := []) (wx_told_0 (v := v) hls h1 hok.1.1 hf0) rfl G hpt (by rw [hax]) (xt4 66 rfl rfl) (xt4 64 rfl rfl) (xt4 65 rfl rfl) (xt1 0 rfl rfl) (by decide +kernel) rfl (by decide) hl.1 (Nat.le_of_ble_eq_true rfl) dL_law_1125 hdd (by show _ ≤ 601024; omega) (by show _ ≤ 7293034; omega) (fun H1 locs1 w1 hag hpt => ?_)
      have hax1 : w1.1 x = ax := (hag x hok.1.1).1.trans hax
      have ham1 : w1.1 mm = am := (hag mm hok.2.1).1.trans ham
      refine lv_istore (lv' := (5, .int 2) :: [(0, .ref b), (1, .ref ax), (2, .ref am), (3, .ref qo), (4, .int (nI i))]) hx hb dL_law_1128 hl (by decide) rfl (fun ls1 hl => ?_)
      refine lv_aload_n hx hb dL_law_1130 rfl (lv_at hl 3 rfl) ?_
      refine lw_arg (k := 1) G hL hpt hl (List.mem_of_getElem? (i := 1) rfl) (List.mem_of_getElem? (i := 5) rfl) (by decide) (by omega) dL_law_1131 dL_law_1132 dL_law_1134 dL_law_1135 dL_law_1136 ?_
      refine lw_arg (k := 2) G hL hpt hl (List.mem_of_getElem? (i := 1) rfl) (List.mem_of_getElem? (i := 5) rfl) (by decide) (by omega) dL_law_1137 dL_law_1138 dL_law_1140 dL_law_1141 dL_law_1142 ?_
      refine lw_callM (is := [.int (xs (i + 1)), .int (xs (i + 2))]) (rest := []) h2 G hpt ham1 o1.2.1 hf1 rfl (by decide) (xok_ints [(xs (i + 1)), (xs (i + 2))]) rfl (xt5 146 rfl rfl) (xt5 147 rfl rfl) (xt5 148 rfl rfl) hl.1 (Nat.le_of_ble_eq_true rfl) dL_law_1143 hdd (by show _ ≤ 601024; omega) (by show _ ≤ 7293034; omega) (fun H2 locs2 w2 hag2 hpt => ?_)
      have hax2 : w2.1 x = ax := (hag2 x o1.1.1).1.trans hax1
      have ham2 : w2.1 mm = am := (hag2 mm o1.2.1).1.trans ham1
      refine lv_istore (lv' := (6, .int b9) :: (5, .int 2) :: [(0, .ref b), (1, .ref ax), (2, .ref am), (3, .ref qo), (4, .int (nI i))]) hx hb dL_law_1146 hl (by decide) rfl (fun ls2 hl => ?_)
      refine lv_aload_n hx hb dL_law_1148 rfl (lv_at hl 4 rfl) ?_
      refine lw_callM (is := []) (rest := []) h3 G hpt ham2 o2.2.1 hf2 rfl (by decide) (xok_ints []) rfl (xt4 216 rfl rfl) (xt4 217 rfl rfl) (xt4 218 rfl rfl) hl.1 (Nat.le_of_ble_eq_true rfl) dL_law_1149 hdd (by show _ ≤ 601024; omega) (by show _ ≤ 7293034; omega) (fun H3 locs3 w3 hag3 hpt => ?_)
      have hax3 : w3.1 x = ax := (hag3 x o2.1.1).1.trans hax2
      have ham3 : w3.1 mm = am := (hag3 mm o2.2.1).1.trans ham2
      refine lv_iload hx hb dL_law_1152 (lv_at hl 1 rfl) ?_
      refine lv_icmp_eq (tgt := 1159) hx hb dL_law_1154 (by decide) (fun _ => ?_) (fun hne => absurd rfl hne)
      refine lv_iload hx hb dL_law_1159 (lv_at hl 1 rfl) ?_
      refine lv_if_ne (tgt := 1176) hx hb dL_law_1161 (by decide) (fun _ => ?_) (fun hz0 => absurd hz0 (by decide))
      refine lv_goto (tgt := 1247) hx hb dL_law_1176 (by decide) ?_
      exact lw_num (by omega) (by omega) (hk σ2 w3 _ H3 locs3 _ (t + 1) hI hax3 ham3 hpt (lv_sub hl [2, 3, 4, 5, 6] rfl) (by omega))
    cases hek
set_option maxHeartbeats 2000000 in
set_option maxRecDepth 100000 in
theorem lc_result {p : Program} {l : Launch} {e : Env} {s : State} {m : MethodId} {below : List Frame} {meth : Method} {c : Code} {Q : State → Prop} {D : va_G} {H : Heap} {locs : List Loc} {ls : Array Slot} {w : XW} {σ : XS} {qo ax am : Nat} {cL : ClassId} {v : Nat → Int64} {b L d x mm i t : Nat} {xs : Nat → Int32} {Inv : XS → Prop} (hls : l.stackTraces = false) (G : lwH p s m meth c b L xs) (hL : L ≤ 3072) (hi : i + 6 ≤ L) (hop : lwI d x mm 91 148 [.int (xs (i + 1)), .int (xs (i + 2))] [(2, 1)] Inv σ) (hok : lwOk x mm σ) (hbd : ∀ σ, Inv σ → σ.1 ≤ 2000 ∧ σ.2.1 ≤ 100000) (ht : t ≤ 3072) (hdd : d ≤ 1000) (hpt : lwPt D (lwA s) s H locs w σ qo cL v) (hax : w.1 x = ax) (ham : w.1 mm = am) (hl : lv_has ls 7 [(0, .ref b), (1, .ref ax), (2, .ref am), (3, .ref qo), (4, .int (nI i))])
    (hk : ∀ (σ' : XS) (w' : XW) (v' : Nat → Int64) (H' : Heap) (locs' : List Loc) (ls' : Array Slot) (t' : Nat), Inv σ' → w'.1 x = ax → w'.1 mm = am → lwPt D (lwA s) s H' locs' w' σ' qo cL v' → lv_has ls' 7 [(0, .ref b), (1, .ref ax), (2, .ref am), (3, .ref qo), (4, .int (nI i))] → t' ≤ t + 1 → W p l e room_1 s m #[Value.ref b] below meth c H' locs' (σ'.1 + 1 + t') (σ'.2.1 + 1 + 6 * t') Q (F0 m 1247 ls' [])) :
    W p l e room_1 s m #[Value.ref b] below meth c H locs (σ.1 + 1 + t) (σ.2.1 + 1 + 6 * t) Q (F0 m 1179 ls []) := by
  obtain ⟨⟨hx, hb, hr, hml, hown, hts0, hX, hbl, hlocks, hgv⟩, hts, htn, hz, hnc⟩ := id G
  obtain ⟨fs0, hf0⟩ := hok.1.2
  rcases hop with ⟨N1, N2, N3, r, σ1, σ2, h1, o1, h2, o2, h3, hI⟩ | ⟨N1, N2, N3, E, k, b9, σ1, σ2, h1, hek, o1, h2, o2, h3, hI⟩
  · have q1 := xcall_mono _ _ _ _ _ _ h1
    have q2 := xcall_mono _ _ _ _ _ _ h2
    have q3 := hbd σ2 hI
    obtain ⟨fs1, hf1⟩ := o1.2.2
    obtain ⟨fs2, hf2⟩ := o2.2.2
    refine lv_aload_n hx hb dL_law_1179 rfl (lv_at hl 1 rfl) ?_
    refine lw_arg (k := 1) G hL hpt hl (List.mem_of_getElem? (i := 0) rfl) (List.mem_of_getElem? (i := 4) rfl) (by decide) (by omega) dL_law_1180 dL_law_1181 dL_law_1183 dL_law_1184 dL_law_1185 ?_
    refine lw_arg (k := 2) G hL hpt hl (List.mem_of_getElem? (i := 0) rfl) (List.mem_of_getElem? (i := 4) rfl) (by decide) (by omega) dL_law_1186 dL_law_1187 dL_law_1189 dL_law_1190 dL_law_1191 ?_
    refine lv_aload_n hx hb dL_law_1192 rfl (lv_at hl 3 rfl) ?_
    refine lw_callW (n := 4) (As := [.ref ax, .int (xs (i + 1)), .int (xs (i + 2)), .ref qo]) (rest := []) (wn_result (v := v) h1 hok.1.1 hf0) rfl G hpt (by rw [hax]) (xt4 81 rfl rfl) (xt4 79 rfl rfl) (xt4 80 rfl rfl) (xt1 0 rfl rfl) (by decide +kernel) rfl (by decide) hl.1 (Nat.le_of_ble_eq_true rfl) dL_law_1193 hdd (by show _ ≤ 601024; omega) (by show _ ≤ 7293034; omega) (fun H1 locs1 w1 hag hpt => ?_)
    have hax1 : w1.1 x = ax := (hag x hok.1.1).1.trans hax
    have ham1 : w1.1 mm = am := (hag mm hok.2.1).1.trans ham
    refine lv_istore (lv' := (5, .int 0) :: [(0, .ref b), (1, .ref ax), (2, .ref am), (3, .ref qo), (4, .int (nI i))]) hx hb dL_law_1196 hl (by decide) rfl (fun ls1 hl => ?_)
    refine lv_aload_n hx hb dL_law_1198 rfl (lv_at hl 3 rfl) ?_
    refine lw_arg (k := 1) G hL hpt hl (List.mem_of_getElem? (i := 1) rfl) (List.mem_of_getElem? (i := 5) rfl) (by decide) (by omega) dL_law_1199 dL_law_1200 dL_law_1202 dL_law_1203 dL_law_1204 ?_
    refine lw_arg (k := 2) G hL hpt hl (List.mem_of_getElem? (i := 1) rfl) (List.mem_of_getElem? (i := 5) rfl) (by decide) (by omega) dL_law_1205 dL_law_1206 dL_law_1208 dL_law_1209 dL_law_1210 ?_
    refine lw_callM (is := [.int (xs (i + 1)), .int (xs (i + 2))]) (rest := []) h2 G hpt ham1 o1.2.1 hf1 rfl (by decide) (xok_ints [(xs (i + 1)), (xs (i + 2))]) rfl (xt5 150 rfl rfl) (xt5 151 rfl rfl) (xt5 152 rfl rfl) hl.1 (Nat.le_of_ble_eq_true rfl) dL_law_1211 hdd (by show _ ≤ 601024; omega) (by show _ ≤ 7293034; omega) (fun H2 locs2 w2 hag2 hpt => ?_)
    have hax2 : w2.1 x = ax := (hag2 x o1.1.1).1.trans hax1
    have ham2 : w2.1 mm = am := (hag2 mm o1.2.1).1.trans ham1
    refine lv_istore (lv' := (6, .int r) :: (5, .int 0) :: [(0, .ref b), (1, .ref ax), (2, .ref am), (3, .ref qo), (4, .int (nI i))]) hx hb dL_law_1214 hl (by decide) rfl (fun ls2 hl => ?_)
    refine lv_aload_n hx hb dL_law_1216 rfl (lv_at hl 4 rfl) ?_
    refine lw_callM (is := []) (rest := []) h3 G hpt ham2 o2.2.1 hf2 rfl (by decide) (xok_ints []) rfl (xt4 216 rfl rfl) (xt4 217 rfl rfl) (xt4 218 rfl rfl) hl.1 (Nat.le_of_ble_eq_true rfl) dL_law_1217 hdd (by show _ ≤ 601024; omega) (by show _ ≤ 7293034; omega) (fun H3 locs3 w3 hag3 hpt => ?_)
    have hax3 : w3.1 x = ax := (hag3 x o2.1.1).1.trans hax2
    have ham3 : w3.1 mm = am := (hag3 mm o2.2.1).1.trans ham2
    refine lv_iload hx hb dL_law_1220 (lv_at hl 1 rfl) ?_
    refine lv_icmp_eq (tgt := 1227) hx hb dL_law_1222 (by decide) (fun _ => ?_) (fun hne => absurd rfl hne)
    refine lv_iload hx hb dL_law_1227 (lv_at hl 1 rfl) ?_
    refine lv_if_ne (tgt := 1244) hx hb dL_law_1229 (by decide) (fun hne => absurd rfl hne) (fun _ => ?_)
    refine lv_aload_n hx hb dL_law_1232 rfl (lv_at hl 5 rfl) ?_
    refine lv_iconst (v := 0) hx hb dL_law_1233 (by decide) ?_
    refine lw_laload G hpt dL_law_1234 ?_
    rw [pk_uLs]
    refine lv_iload hx hb dL_law_1235 (lv_at hl 0 rfl) ?_
    refine lv_i2l hx hb dL_law_1237 rfl ?_
    refine W.lcmp hx hb dL_law_1238 ?_
    rw [lg_cmp_self]
    refine lv_if_eq (tgt := 1244) hx hb dL_law_1239 (by decide) (fun _ => ?_) (fun hne => absurd rfl hne)
    refine lv_goto (tgt := 1247) hx hb dL_law_1244 (by decide) ?_
    exact lw_num (by omega) (by omega) (hk σ2 w3 _ H3 locs3 _ t hI hax3 ham3 hpt (lv_sub hl [2, 3, 4, 5, 6] rfl) (by omega))
  · have q1 := xcallX_mono _ _ _ _ _ _ h1
    have q2 := xcall_mono _ _ _ _ _ _ h2
    have q3 := hbd σ2 hI
    obtain ⟨fs1, hf1⟩ := o1.2.2
    obtain ⟨fs2, hf2⟩ := o2.2.2
    rcases List.mem_cons.mp hek with hek | hek
    · cases hek
      refine lv_aload_n hx hb dL_law_1179 rfl (lv_at hl 1 rfl) ?_
      refine lw_arg (k := 1) G hL hpt hl (List.mem_of_getElem? (i := 0) rfl) (List.mem_of_getElem? (i := 4) rfl) (by decide) (by omega) dL_law_1180 dL_law_1181 dL_law_1183 dL_law_1184 dL_law_1185 ?_
      refine lw_arg (k := 2) G hL hpt hl (List.mem_of_getElem? (i := 0) rfl) (List.mem_of_getElem? (i := 4) rfl) (by decide) (by omega) dL_law_1186 dL_law_1187 dL_law_1189 dL_law_1190 dL_law_1191 ?_
      refine lv_aload_n hx hb dL_law_1192 rfl (lv_at hl 3 rfl) ?_
      refine lw_callW (n := 4) (As := [.ref ax, .int (xs (i + 1)), .int (xs (i + 2)), .ref qo]) (rest := []) (wx_result_2 (v := v) hls h1 hok.1.1 hf0) rfl G hpt (by rw [hax]) (xt4 81 rfl rfl) (xt4 79 rfl rfl) (xt4 80 rfl rfl) (xt1 0 rfl rfl) (by decide +kernel) rfl (by decide) hl.1 (Nat.le_of_ble_eq_true rfl) dL_law_1193 hdd (by show _ ≤ 601024; omega) (by show _ ≤ 7293034; omega) (fun H1 locs1 w1 hag hpt => ?_)
      have hax1 : w1.1 x = ax := (hag x hok.1.1).1.trans hax
      have ham1 : w1.1 mm = am := (hag mm hok.2.1).1.trans ham
      refine lv_istore (lv' := (5, .int 1) :: [(0, .ref b), (1, .ref ax), (2, .ref am), (3, .ref qo), (4, .int (nI i))]) hx hb dL_law_1196 hl (by decide) rfl (fun ls1 hl => ?_)
      refine lv_aload_n hx hb dL_law_1198 rfl (lv_at hl 3 rfl) ?_
      refine lw_arg (k := 1) G hL hpt hl (List.mem_of_getElem? (i := 1) rfl) (List.mem_of_getElem? (i := 5) rfl) (by decide) (by omega) dL_law_1199 dL_law_1200 dL_law_1202 dL_law_1203 dL_law_1204 ?_
      refine lw_arg (k := 2) G hL hpt hl (List.mem_of_getElem? (i := 1) rfl) (List.mem_of_getElem? (i := 5) rfl) (by decide) (by omega) dL_law_1205 dL_law_1206 dL_law_1208 dL_law_1209 dL_law_1210 ?_
      refine lw_callM (is := [.int (xs (i + 1)), .int (xs (i + 2))]) (rest := []) h2 G hpt ham1 o1.2.1 hf1 rfl (by decide) (xok_ints [(xs (i + 1)), (xs (i + 2))]) rfl (xt5 150 rfl rfl) (xt5 151 rfl rfl) (xt5 152 rfl rfl) hl.1 (Nat.le_of_ble_eq_true rfl) dL_law_1211 hdd (by show _ ≤ 601024; omega) (by show _ ≤ 7293034; omega) (fun H2 locs2 w2 hag2 hpt => ?_)
      have hax2 : w2.1 x = ax := (hag2 x o1.1.1).1.trans hax1
      have ham2 : w2.1 mm = am := (hag2 mm o1.2.1).1.trans ham1
      refine lv_istore (lv' := (6, .int b9) :: (5, .int 1) :: [(0, .ref b), (1, .ref ax), (2, .ref am), (3, .ref qo), (4, .int (nI i))]) hx hb dL_law_1214 hl (by decide) rfl (fun ls2 hl => ?_)
      refine lv_aload_n hx hb dL_law_1216 rfl (lv_at hl 4 rfl) ?_
      refine lw_callM (is := []) (rest := []) h3 G hpt ham2 o2.2.1 hf2 rfl (by decide) (xok_ints []) rfl (xt4 216 rfl rfl) (xt4 217 rfl rfl) (xt4 218 rfl rfl) hl.1 (Nat.le_of_ble_eq_true rfl) dL_law_1217 hdd (by show _ ≤ 601024; omega) (by show _ ≤ 7293034; omega) (fun H3 locs3 w3 hag3 hpt => ?_)
      have hax3 : w3.1 x = ax := (hag3 x o2.1.1).1.trans hax2
      have ham3 : w3.1 mm = am := (hag3 mm o2.2.1).1.trans ham2
      refine lv_iload hx hb dL_law_1220 (lv_at hl 1 rfl) ?_
      refine lv_icmp_eq (tgt := 1227) hx hb dL_law_1222 (by decide) (fun _ => ?_) (fun hne => absurd rfl hne)
      refine lv_iload hx hb dL_law_1227 (lv_at hl 1 rfl) ?_
      refine lv_if_ne (tgt := 1244) hx hb dL_law_1229 (by decide) (fun _ => ?_) (fun hz0 => absurd hz0 (by decide))
      refine lv_goto (tgt := 1247) hx hb dL_law_1244 (by decide) ?_
      exact lw_num (by omega) (by omega) (hk σ2 w3 _ H3 locs3 _ (t + 1) hI hax3 ham3 hpt (lv_sub hl [2, 3, 4, 5, 6] rfl) (by omega))
    cases hek
