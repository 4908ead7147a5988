/-! contracts of the law's own small methods -/
theorem xok_ints {n : Nat} (l : List Int32) : ∀ v ∈ l.map Value.int, xok n v := fun v hv => by obtain ⟨x, -, rfl⟩ := List.mem_map.mp hv; trivial
def lws_request : List Cond := .codeWith yL_request cL_request 7 (some .int) [(0, 14, 17, 13), (0, 14, 21, 15)] :: xT
set_option maxRecDepth 100000 in
theorem wn_request {l : Launch} {D : va_G} {N d x : Nat} {fs : List Value} {σ σ1 : XS} {v : Nat → Int64} {a1 a2 a3 a4 : Int32} {r : Int32} (hc : xcall N d 76 [.ref x, .int a1, .int a2, .int a3, .int a4] σ = some (some (.int r), σ1)) (hxn : x < σ.1) (hf : σ.2.2 x = .inl (9, fs)) : lwMet l D d yL_request lws_request (fun w qo => [.ref (w.1 x), .int a1, .int a2, .int a3, .int a4, .ref qo]) σ v 0 σ1 (vp_updL v 0 r.toInt64) (0 + (σ1.1 - σ.1)) (0 + (σ1.2.1 - σ.2.1)) := by
  refine lw_enter (by decide +kernel) rfl (fun w qo => Nat.le_of_ble_eq_true rfl) (fun p e s m args below meth c w qo cL A ls F hpt hl => ?_)
  have hl : lv_has ls 7 [(0, .ref (w.1 x)), (1, .int a1), (2, .int a2), (3, .int a3), (4, .int a4), (5, .ref qo)] := hl
  obtain ⟨hx, hb, hml, hown, hts, htn, hz, hnc, hr, hlocks, htab, hA⟩ := id F
  refine lv_aload hx hb dL_request_0 (lv_at hl 5 rfl) ?_
  refine lv_iconst (v := 0) hx hb dL_request_2 (by decide) ?_
  refine lv_aload_n hx hb dL_request_3 rfl (lv_at hl 0 rfl) ?_
  refine lv_iload_n hx hb dL_request_4 rfl (lv_at hl 1 rfl) ?_
  refine lv_iload_n hx hb dL_request_5 rfl (lv_at hl 2 rfl) ?_
  refine lv_iload_n hx hb dL_request_6 rfl (lv_at hl 3 rfl) ?_
  refine lv_iload hx hb dL_request_7 (lv_at hl 4 rfl) ?_
  refine lw_callN (is := [.int a1, .int a2, .int a3, .int a4]) (rest := [.int 0, .ref qo]) (w := w) hc hx hb hml hown hts htn hA hpt hxn hf rfl (by decide) (xok_ints [a1, a2, a3, a4]) rfl (xt2 13 rfl rfl) (xt2 14 rfl rfl) (xt2 15 rfl rfl) hl.1 (Nat.le_of_ble_eq_true rfl) dL_request_9 (by show d + 1 ≤ d + 8; omega) (by show (d + 1) * 40 ≤ (d + 2) * 40 + 100; omega) (Nat.le_refl _) (Nat.le_refl _) (fun H' locs' w' hag hpt' => ?_)
  refine lv_i2l hx hb dL_request_12 rfl ?_
  exact lw_tailL F hpt' hag dL_request_13 dL_request_14 (by decide) dL_request_25 dL_request_26
set_option maxRecDepth 100000 in
theorem wx_request_0 {l : Launch} {D : va_G} {N d x : Nat} {fs : List Value} {σ σ1 : XS} {v : Nat → Int64} {a1 a2 a3 a4 : Int32} (hls : l.stackTraces = false) (hc : xcallX N d 76 [.ref x, .int a1, .int a2, .int a3, .int a4] σ = some (0, σ1)) (hxn : x < σ.1) (hf : σ.2.2 x = .inl (9, fs)) : lwMet l D d yL_request lws_request (fun w qo => [.ref (w.1 x), .int a1, .int a2, .int a3, .int a4, .ref qo]) σ v 1 σ1 v (0 + (σ1.1 - σ.1 + 1)) (0 + (σ1.2.1 - σ.2.1 + 6)) := by
  refine lw_enter (by decide +kernel) rfl (fun w qo => Nat.le_of_ble_eq_true rfl) (fun p e s m args below meth c w qo cL A ls F hpt hl => ?_)
  have hl : lv_has ls 7 [(0, .ref (w.1 x)), (1, .int a1), (2, .int a2), (3, .int a3), (4, .int a4), (5, .ref qo)] := hl
  obtain ⟨hx, hb, hml, hown, hts, htn, hz, hnc, hr, hlocks, htab, hA⟩ := id F
  refine lv_aload hx hb dL_request_0 (lv_at hl 5 rfl) ?_
  refine lv_iconst (v := 0) hx hb dL_request_2 (by decide) ?_
  refine lv_aload_n hx hb dL_request_3 rfl (lv_at hl 0 rfl) ?_
  refine lv_iload_n hx hb dL_request_4 rfl (lv_at hl 1 rfl) ?_
  refine lv_iload_n hx hb dL_request_5 rfl (lv_at hl 2 rfl) ?_
  refine lv_iload_n hx hb dL_request_6 rfl (lv_at hl 3 rfl) ?_
  refine lv_iload hx hb dL_request_7 (lv_at hl 4 rfl) ?_
  refine lw_callX (is := [.int a1, .int a2, .int a3, .int a4]) (rest := [.int 0, .ref qo]) (w := w) hls hc hx hb hml hown hts htn hA hz hpt hxn hf rfl (by decide) (xok_ints [a1, a2, a3, a4]) rfl (xt2 13 rfl rfl) (xt2 14 rfl rfl) (xt2 15 rfl rfl) hl.1 (Nat.le_of_ble_eq_true rfl) dL_request_9 (by show d + 7 ≤ d + 8; omega) (by show (d + 1) * 40 + 100 ≤ (d + 2) * 40 + 100; omega) (Nat.le_refl _) (Nat.le_refl _) (fun H' locs' w' q ce hag hpt' h1 h2 h3 => ?_)
  exact lw_caught (E := 0) (nm := "java/lang/IllegalArgumentException") F hpt' hag h1 h2 h3 rfl [] ⟨0, 14, 17, 13⟩ [⟨0, 14, 21, 15⟩] rfl (fun z hz => nomatch hz) (by decide) (by decide) (xt2 11 rfl rfl) (by decide) (lv_sub hl [] rfl) (by decide) dL_request_17 dL_request_19 rfl dL_request_20
set_option maxRecDepth 100000 in
theorem wx_request_1 {l : Launch} {D : va_G} {N d x : Nat} {fs : List Value} {σ σ1 : XS} {v : Nat → Int64} {a1 a2 a3 a4 : Int32} (hls : l.stackTraces = false) (hc : xcallX N d 76 [.ref x, .int a1, .int a2, .int a3, .int a4] σ = some (1, σ1)) (hxn : x < σ.1) (hf : σ.2.2 x = .inl (9, fs)) : lwMet l D d yL_request lws_request (fun w qo => [.ref (w.1 x), .int a1, .int a2, .int a3, .int a4, .ref qo]) σ v 2 σ1 v (0 + (σ1.1 - σ.1 + 1)) (0 + (σ1.2.1 - σ.2.1 + 6)) := by
  refine lw_enter (by decide +kernel) rfl (fun w qo => Nat.le_of_ble_eq_true rfl) (fun p e s m args below meth c w qo cL A ls F hpt hl => ?_)
  have hl : lv_has ls 7 [(0, .ref (w.1 x)), (1, .int a1), (2, .int a2), (3, .int a3), (4, .int a4), (5, .ref qo)] := hl
  obtain ⟨hx, hb, hml, hown, hts, htn, hz, hnc, hr, hlocks, htab, hA⟩ := id F
  refine lv_aload hx hb dL_request_0 (lv_at hl 5 rfl) ?_
  refine lv_iconst (v := 0) hx hb dL_request_2 (by decide) ?_
  refine lv_aload_n hx hb dL_request_3 rfl (lv_at hl 0 rfl) ?_
  refine lv_iload_n hx hb dL_request_4 rfl (lv_at hl 1 rfl) ?_
  refine lv_iload_n hx hb dL_request_5 rfl (lv_at hl 2 rfl) ?_
  refine lv_iload_n hx hb dL_request_6 rfl (lv_at hl 3 rfl) ?_
  refine lv_iload hx hb dL_request_7 (lv_at hl 4 rfl) ?_
  refine lw_callX (is := [.int a1, .int a2, .int a3, .int a4]) (rest := [.int 0, .ref qo]) (w := w) hls hc hx hb hml hown hts htn hA hz hpt hxn hf rfl (by decide) (xok_ints [a1, a2, a3, a4]) rfl (xt2 13 rfl rfl) (xt2 14 rfl rfl) (xt2 15 rfl rfl) hl.1 (Nat.le_of_ble_eq_true rfl) dL_request_9 (by show d + 7 ≤ d + 8; omega) (by show (d + 1) * 40 + 100 ≤ (d + 2) * 40 + 100; omega) (Nat.le_refl _) (Nat.le_refl _) (fun H' locs' w' q ce hag hpt' h1 h2 h3 => ?_)
  exact lw_caught (E := 1) (nm := "java/lang/IllegalStateException") F hpt' hag h1 h2 h3 rfl [⟨0, 14, 17, 13⟩] ⟨0, 14, 21, 15⟩ [] rfl (List.forall_mem_cons.mpr ⟨⟨by decide, "java/lang/IllegalArgumentException", (xt2 11 rfl rfl), by decide⟩, fun z hz => nomatch hz⟩) (by decide) (by decide) (xt2 12 rfl rfl) (by decide) (lv_sub hl [] rfl) (by decide) dL_request_21 dL_request_23 rfl dL_request_24
def lws_bring : List Cond := .codeWith yL_bring cL_bring 5 (some .int) [(0, 10, 13, 21)] :: xT
set_option maxRecDepth 100000 in
theorem wn_bring {l : Launch} {D : va_G} {N d x : Nat} {fs : List Value} {σ σ1 : XS} {v : Nat → Int64} {a1 a2 : Int32} {r : Int32} (hc : xcall N d 77 [.ref x, .int a1, .int a2] σ = some (some (.int r), σ1)) (hxn : x < σ.1) (hf : σ.2.2 x = .inl (9, fs)) : lwMet l D d yL_bring lws_bring (fun w qo => [.ref (w.1 x), .int a1, .int a2, .ref qo]) σ v 0 σ1 (vp_updL v 0 r.toInt64) (0 + (σ1.1 - σ.1)) (0 + (σ1.2.1 - σ.2.1)) := by
  refine lw_enter (by decide +kernel) rfl (fun w qo => Nat.le_of_ble_eq_true rfl) (fun p e s m args below meth c w qo cL A ls F hpt hl => ?_)
  have hl : lv_has ls 5 [(0, .ref (w.1 x)), (1, .int a1), (2, .int a2), (3, .ref qo)] := hl
  obtain ⟨hx, hb, hml, hown, hts, htn, hz, hnc, hr, hlocks, htab, hA⟩ := id F
  refine lv_aload_n hx hb dL_bring_0 rfl (lv_at hl 3 rfl) ?_
  refine lv_iconst (v := 0) hx hb dL_bring_1 (by decide) ?_
  refine lv_aload_n hx hb dL_bring_2 rfl (lv_at hl 0 rfl) ?_
  refine lv_iload_n hx hb dL_bring_3 rfl (lv_at hl 1 rfl) ?_
  refine lv_iload_n hx hb dL_bring_4 rfl (lv_at hl 2 rfl) ?_
  refine lw_callN (is := [.int a1, .int a2]) (rest := [.int 0, .ref qo]) (w := w) hc hx hb hml hown hts htn hA hpt hxn hf rfl (by decide) (xok_ints [a1, a2]) rfl (xt2 116 rfl rfl) (xt2 117 rfl rfl) (xt2 118 rfl rfl) hl.1 (Nat.le_of_ble_eq_true rfl) dL_bring_5 (by show d + 1 ≤ d + 8; omega) (by show (d + 1) * 40 ≤ (d + 2) * 40 + 100; omega) (Nat.le_refl _) (Nat.le_refl _) (fun H' locs' w' hag hpt' => ?_)
  refine lv_i2l hx hb dL_bring_8 rfl ?_
  exact lw_tailL F hpt' hag dL_bring_9 dL_bring_10 (by decide) dL_bring_17 dL_bring_18
set_option maxRecDepth 100000 in
theorem wx_bring_2 {l : Launch} {D : va_G} {N d x : Nat} {fs : List Value} {σ σ1 : XS} {v : Nat → Int64} {a1 a2 : Int32} (hls : l.stackTraces = false) (hc : xcallX N d 77 [.ref x, .int a1, .int a2] σ = some (2, σ1)) (hxn : x < σ.1) (hf : σ.2.2 x = .inl (9, fs)) : lwMet l D d yL_bring lws_bring (fun w qo => [.ref (w.1 x), .int a1, .int a2, .ref qo]) σ v 1 σ1 v (0 + (σ1.1 - σ.1 + 1)) (0 + (σ1.2.1 - σ.2.1 + 6)) := by
  refine lw_enter (by decide +kernel) rfl (fun w qo => Nat.le_of_ble_eq_true rfl) (fun p e s m args below meth c w qo cL A ls F hpt hl => ?_)
  have hl : lv_has ls 5 [(0, .ref (w.1 x)), (1, .int a1), (2, .int a2), (3, .ref qo)] := hl
  obtain ⟨hx, hb, hml, hown, hts, htn, hz, hnc, hr, hlocks, htab, hA⟩ := id F
  refine lv_aload_n hx hb dL_bring_0 rfl (lv_at hl 3 rfl) ?_
  refine lv_iconst (v := 0) hx hb dL_bring_1 (by decide) ?_
  refine lv_aload_n hx hb dL_bring_2 rfl (lv_at hl 0 rfl) ?_
  refine lv_iload_n hx hb dL_bring_3 rfl (lv_at hl 1 rfl) ?_
  refine lv_iload_n hx hb dL_bring_4 rfl (lv_at hl 2 rfl) ?_
  refine lw_callX (is := [.int a1, .int a2]) (rest := [.int 0, .ref qo]) (w := w) hls hc hx hb hml hown hts htn hA hz hpt hxn hf rfl (by decide) (xok_ints [a1, a2]) rfl (xt2 116 rfl rfl) (xt2 117 rfl rfl) (xt2 118 rfl rfl) hl.1 (Nat.le_of_ble_eq_true rfl) dL_bring_5 (by show d + 7 ≤ d + 8; omega) (by show (d + 1) * 40 + 100 ≤ (d + 2) * 40 + 100; omega) (Nat.le_refl _) (Nat.le_refl _) (fun H' locs' w' q ce hag hpt' h1 h2 h3 => ?_)
  exact lw_caught (E := 2) (nm := "java/lang/IndexOutOfBoundsException") F hpt' hag h1 h2 h3 rfl [] ⟨0, 10, 13, 21⟩ [] rfl (fun z hz => nomatch hz) (by decide) (by decide) (xt2 115 rfl rfl) (by decide) (lv_sub hl [] rfl) (by decide) dL_bring_13 dL_bring_15 rfl dL_bring_16
def lws_send : List Cond := .codeWith yL_send cL_send 6 (some .int) [(0, 12, 15, 21), (0, 12, 19, 13)] :: xT
set_option maxRecDepth 100000 in
theorem wn_send {l : Launch} {D : va_G} {N d x : Nat} {fs : List Value} {σ σ1 : XS} {v : Nat → Int64} {a1 a2 a3 : Int32} {r : Int32} (hc : xcall N d 78 [.ref x, .int a1, .int a2, .int a3] σ = some (some (.int r), σ1)) (hxn : x < σ.1) (hf : σ.2.2 x = .inl (9, fs)) : lwMet l D d yL_send lws_send (fun w qo => [.ref (w.1 x), .int a1, .int a2, .int a3, .ref qo]) σ v 0 σ1 (vp_updL v 0 r.toInt64) (0 + (σ1.1 - σ.1)) (0 + (σ1.2.1 - σ.2.1)) := by
  refine lw_enter (by decide +kernel) rfl (fun w qo => Nat.le_of_ble_eq_true rfl) (fun p e s m args below meth c w qo cL A ls F hpt hl => ?_)
  have hl : lv_has ls 6 [(0, .ref (w.1 x)), (1, .int a1), (2, .int a2), (3, .int a3), (4, .ref qo)] := hl
  obtain ⟨hx, hb, hml, hown, hts, htn, hz, hnc, hr, hlocks, htab, hA⟩ := id F
  refine lv_aload hx hb dL_send_0 (lv_at hl 4 rfl) ?_
  refine lv_iconst (v := 0) hx hb dL_send_2 (by decide) ?_
  refine lv_aload_n hx hb dL_send_3 rfl (lv_at hl 0 rfl) ?_
  refine lv_iload_n hx hb dL_send_4 rfl (lv_at hl 1 rfl) ?_
  refine lv_iload_n hx hb dL_send_5 rfl (lv_at hl 2 rfl) ?_
  refine lv_iload_n hx hb dL_send_6 rfl (lv_at hl 3 rfl) ?_
  refine lw_callN (is := [.int a1, .int a2, .int a3]) (rest := [.int 0, .ref qo]) (w := w) hc hx hb hml hown hts htn hA hpt hxn hf rfl (by decide) (xok_ints [a1, a2, a3]) rfl (xt3 109 rfl rfl) (xt3 110 rfl rfl) (xt3 111 rfl rfl) hl.1 (Nat.le_of_ble_eq_true rfl) dL_send_7 (by show d + 1 ≤ d + 8; omega) (by show (d + 1) * 40 ≤ (d + 2) * 40 + 100; omega) (Nat.le_refl _) (Nat.le_refl _) (fun H' locs' w' hag hpt' => ?_)
  refine lv_i2l hx hb dL_send_10 rfl ?_
  exact lw_tailL F hpt' hag dL_send_11 dL_send_12 (by decide) dL_send_23 dL_send_24
set_option maxRecDepth 100000 in
theorem wx_send_2 {l : Launch} {D : va_G} {N d x : Nat} {fs : List Value} {σ σ1 : XS} {v : Nat → Int64} {a1 a2 a3 : Int32} (hls : l.stackTraces = false) (hc : xcallX N d 78 [.ref x, .int a1, .int a2, .int a3] σ = some (2, σ1)) (hxn : x < σ.1) (hf : σ.2.2 x = .inl (9, fs)) : lwMet l D d yL_send lws_send (fun w qo => [.ref (w.1 x), .int a1, .int a2, .int a3, .ref qo]) σ v 1 σ1 v (0 + (σ1.1 - σ.1 + 1)) (0 + (σ1.2.1 - σ.2.1 + 6)) := by
  refine lw_enter (by decide +kernel) rfl (fun w qo => Nat.le_of_ble_eq_true rfl) (fun p e s m args below meth c w qo cL A ls F hpt hl => ?_)
  have hl : lv_has ls 6 [(0, .ref (w.1 x)), (1, .int a1), (2, .int a2), (3, .int a3), (4, .ref qo)] := hl
  obtain ⟨hx, hb, hml, hown, hts, htn, hz, hnc, hr, hlocks, htab, hA⟩ := id F
  refine lv_aload hx hb dL_send_0 (lv_at hl 4 rfl) ?_
  refine lv_iconst (v := 0) hx hb dL_send_2 (by decide) ?_
  refine lv_aload_n hx hb dL_send_3 rfl (lv_at hl 0 rfl) ?_
  refine lv_iload_n hx hb dL_send_4 rfl (lv_at hl 1 rfl) ?_
  refine lv_iload_n hx hb dL_send_5 rfl (lv_at hl 2 rfl) ?_
  refine lv_iload_n hx hb dL_send_6 rfl (lv_at hl 3 rfl) ?_
  refine lw_callX (is := [.int a1, .int a2, .int a3]) (rest := [.int 0, .ref qo]) (w := w) hls hc hx hb hml hown hts htn hA hz hpt hxn hf rfl (by decide) (xok_ints [a1, a2, a3]) rfl (xt3 109 rfl rfl) (xt3 110 rfl rfl) (xt3 111 rfl rfl) hl.1 (Nat.le_of_ble_eq_true rfl) dL_send_7 (by show d + 7 ≤ d + 8; omega) (by show (d + 1) * 40 + 100 ≤ (d + 2) * 40 + 100; omega) (Nat.le_refl _) (Nat.le_refl _) (fun H' locs' w' q ce hag hpt' h1 h2 h3 => ?_)
  exact lw_caught (E := 2) (nm := "java/lang/IndexOutOfBoundsException") F hpt' hag h1 h2 h3 rfl [] ⟨0, 12, 15, 21⟩ [⟨0, 12, 19, 13⟩] rfl (fun z hz => nomatch hz) (by decide) (by decide) (xt2 115 rfl rfl) (by decide) (lv_sub hl [] rfl) (by decide) dL_send_15 dL_send_17 rfl dL_send_18
set_option maxRecDepth 100000 in
theorem wx_send_0 {l : Launch} {D : va_G} {N d x : Nat} {fs : List Value} {σ σ1 : XS} {v : Nat → Int64} {a1 a2 a3 : Int32} (hls : l.stackTraces = false) (hc : xcallX N d 78 [.ref x, .int a1, .int a2, .int a3] σ = some (0, σ1)) (hxn : x < σ.1) (hf : σ.2.2 x = .inl (9, fs)) : lwMet l D d yL_send lws_send (fun w qo => [.ref (w.1 x), .int a1, .int a2, .int a3, .ref qo]) σ v 2 σ1 v (0 + (σ1.1 - σ.1 + 1)) (0 + (σ1.2.1 - σ.2.1 + 6)) := by
  refine lw_enter (by decide +kernel) rfl (fun w qo => Nat.le_of_ble_eq_true rfl) (fun p e s m args below meth c w qo cL A ls F hpt hl => ?_)
  have hl : lv_has ls 6 [(0, .ref (w.1 x)), (1, .int a1), (2, .int a2), (3, .int a3), (4, .ref qo)] := hl
  obtain ⟨hx, hb, hml, hown, hts, htn, hz, hnc, hr, hlocks, htab, hA⟩ := id F
  refine lv_aload hx hb dL_send_0 (lv_at hl 4 rfl) ?_
  refine lv_iconst (v := 0) hx hb dL_send_2 (by decide) ?_
  refine lv_aload_n hx hb dL_send_3 rfl (lv_at hl 0 rfl) ?_
  refine lv_iload_n hx hb dL_send_4 rfl (lv_at hl 1 rfl) ?_
  refine lv_iload_n hx hb dL_send_5 rfl (lv_at hl 2 rfl) ?_
  refine lv_iload_n hx hb dL_send_6 rfl (lv_at hl 3 rfl) ?_
  refine lw_callX (is := [.int a1, .int a2, .int a3]) (rest := [.int 0, .ref qo]) (w := w) hls hc hx hb hml hown hts htn hA hz hpt hxn hf rfl (by decide) (xok_ints [a1, a2, a3]) rfl (xt3 109 rfl rfl) (xt3 110 rfl rfl) (xt3 111 rfl rfl) hl.1 (Nat.le_of_ble_eq_true rfl) dL_send_7 (by show d + 7 ≤ d + 8; omega) (by show (d + 1) * 40 + 100 ≤ (d + 2) * 40 + 100; omega) (Nat.le_refl _) (Nat.le_refl _) (fun H' locs' w' q ce hag hpt' h1 h2 h3 => ?_)
  exact lw_caught (E := 0) (nm := "java/lang/IllegalArgumentException") F hpt' hag h1 h2 h3 rfl [⟨0, 12, 15, 21⟩] ⟨0, 12, 19, 13⟩ [] rfl (List.forall_mem_cons.mpr ⟨⟨by decide, "java/lang/IndexOutOfBoundsException", (xt2 115 rfl rfl), by decide⟩, fun z hz => nomatch hz⟩) (by decide) (by decide) (xt2 11 rfl rfl) (by decide) (lv_sub hl [] rfl) (by decide) dL_send_19 dL_send_21 rfl dL_send_22
def lws_late : List Cond := .codeWith yL_late cL_late 4 (some .int) [(0, 9, 12, 21)] :: xT
set_option maxRecDepth 100000 in
theorem wn_late {l : Launch} {D : va_G} {N d x : Nat} {fs : List Value} {σ σ1 : XS} {v : Nat → Int64} {a1 : Int32} {r : Int32} (hc : xcall N d 79 [.ref x, .int a1] σ = some (some (.int r), σ1)) (hxn : x < σ.1) (hf : σ.2.2 x = .inl (9, fs)) : lwMet l D d yL_late lws_late (fun w qo => [.ref (w.1 x), .int a1, .ref qo]) σ v 0 σ1 (vp_updL v 0 r.toInt64) (0 + (σ1.1 - σ.1)) (0 + (σ1.2.1 - σ.2.1)) := by
  refine lw_enter (by decide +kernel) rfl (fun w qo => Nat.le_of_ble_eq_true rfl) (fun p e s m args below meth c w qo cL A ls F hpt hl => ?_)
  have hl : lv_has ls 4 [(0, .ref (w.1 x)), (1, .int a1), (2, .ref qo)] := hl
  obtain ⟨hx, hb, hml, hown, hts, htn, hz, hnc, hr, hlocks, htab, hA⟩ := id F
  refine lv_aload_n hx hb dL_late_0 rfl (lv_at hl 2 rfl) ?_
  refine lv_iconst (v := 0) hx hb dL_late_1 (by decide) ?_
  refine lv_aload_n hx hb dL_late_2 rfl (lv_at hl 0 rfl) ?_
  refine lv_iload_n hx hb dL_late_3 rfl (lv_at hl 1 rfl) ?_
  refine lw_callN (is := [.int a1]) (rest := [.int 0, .ref qo]) (w := w) hc hx hb hml hown hts htn hA hpt hxn hf rfl (by decide) (xok_ints [a1]) rfl (xt3 142 rfl rfl) (xt3 143 rfl rfl) (xt3 144 rfl rfl) hl.1 (Nat.le_of_ble_eq_true rfl) dL_late_4 (by show d + 1 ≤ d + 8; omega) (by show (d + 1) * 40 ≤ (d + 2) * 40 + 100; omega) (Nat.le_refl _) (Nat.le_refl _) (fun H' locs' w' hag hpt' => ?_)
  refine lv_i2l hx hb dL_late_7 rfl ?_
  exact lw_tailL F hpt' hag dL_late_8 dL_late_9 (by decide) dL_late_15 dL_late_16
set_option maxRecDepth 100000 in
theorem wx_late_2 {l : Launch} {D : va_G} {N d x : Nat} {fs : List Value} {σ σ1 : XS} {v : Nat → Int64} {a1 : Int32} (hls : l.stackTraces = false) (hc : xcallX N d 79 [.ref x, .int a1] σ = some (2, σ1)) (hxn : x < σ.1) (hf : σ.2.2 x = .inl (9, fs)) : lwMet l D d yL_late lws_late (fun w qo => [.ref (w.1 x), .int a1, .ref qo]) σ v 1 σ1 v (0 + (σ1.1 - σ.1 + 1)) (0 + (σ1.2.1 - σ.2.1 + 6)) := by
  refine lw_enter (by decide +kernel) rfl (fun w qo => Nat.le_of_ble_eq_true rfl) (fun p e s m args below meth c w qo cL A ls F hpt hl => ?_)
  have hl : lv_has ls 4 [(0, .ref (w.1 x)), (1, .int a1), (2, .ref qo)] := hl
  obtain ⟨hx, hb, hml, hown, hts, htn, hz, hnc, hr, hlocks, htab, hA⟩ := id F
  refine lv_aload_n hx hb dL_late_0 rfl (lv_at hl 2 rfl) ?_
  refine lv_iconst (v := 0) hx hb dL_late_1 (by decide) ?_
  refine lv_aload_n hx hb dL_late_2 rfl (lv_at hl 0 rfl) ?_
  refine lv_iload_n hx hb dL_late_3 rfl (lv_at hl 1 rfl) ?_
  refine lw_callX (is := [.int a1]) (rest := [.int 0, .ref qo]) (w := w) hls hc hx hb hml hown hts htn hA hz hpt hxn hf rfl (by decide) (xok_ints [a1]) rfl (xt3 142 rfl rfl) (xt3 143 rfl rfl) (xt3 144 rfl rfl) hl.1 (Nat.le_of_ble_eq_true rfl) dL_late_4 (by show d + 7 ≤ d + 8; omega) (by show (d + 1) * 40 + 100 ≤ (d + 2) * 40 + 100; omega) (Nat.le_refl _) (Nat.le_refl _) (fun H' locs' w' q ce hag hpt' h1 h2 h3 => ?_)
  exact lw_caught1 (E := 2) (nm := "java/lang/IndexOutOfBoundsException") F hpt' hag h1 h2 h3 rfl [] ⟨0, 9, 12, 21⟩ [] rfl (fun z hz => nomatch hz) (by decide) (by decide) (xt2 115 rfl rfl) (by decide) (lv_sub hl [] rfl) (by decide) dL_late_12 dL_late_13 rfl dL_late_14
def lws_ask : List Cond := .codeWith yL_ask cL_ask 5 (some .int) [(0, 10, 13, 21), (0, 10, 17, 13)] :: xT
set_option maxRecDepth 100000 in
theorem wn_ask {l : Launch} {D : va_G} {N d x : Nat} {fs : List Value} {σ σ1 : XS} {v : Nat → Int64} {a1 a2 : Int32} {r : Int32} (hc : xcall N d 80 [.ref x, .int a1, .int a2] σ = some (some (.int r), σ1)) (hxn : x < σ.1) (hf : σ.2.2 x = .inl (9, fs)) : lwMet l D d yL_ask lws_ask (fun w qo => [.ref (w.1 x), .int a1, .int a2, .ref qo]) σ v 0 σ1 (vp_updL v 0 r.toInt64) (0 + (σ1.1 - σ.1)) (0 + (σ1.2.1 - σ.2.1)) := by
  refine lw_enter (by decide +kernel) rfl (fun w qo => Nat.le_of_ble_eq_true rfl) (fun p e s m args below meth c w qo cL A ls F hpt hl => ?_)
  have hl : lv_has ls 5 [(0, .ref (w.1 x)), (1, .int a1), (2, .int a2), (3, .ref qo)] := hl
  obtain ⟨hx, hb, hml, hown, hts, htn, hz, hnc, hr, hlocks, htab, hA⟩ := id F
  refine lv_aload_n hx hb dL_ask_0 rfl (lv_at hl 3 rfl) ?_
  refine lv_iconst (v := 0) hx hb dL_ask_1 (by decide) ?_
  refine lv_aload_n hx hb dL_ask_2 rfl (lv_at hl 0 rfl) ?_
  refine lv_iload_n hx hb dL_ask_3 rfl (lv_at hl 1 rfl) ?_
  refine lv_iload_n hx hb dL_ask_4 rfl (lv_at hl 2 rfl) ?_
  refine lw_callN (is := [.int a1, .int a2]) (rest := [.int 0, .ref qo]) (w := w) hc hx hb hml hown hts htn hA hpt hxn hf rfl (by decide) (xok_ints [a1, a2]) rfl (xt3 165 rfl rfl) (xt3 166 rfl rfl) (xt3 167 rfl rfl) hl.1 (Nat.le_of_ble_eq_true rfl) dL_ask_5 (by show d + 1 ≤ d + 8; omega) (by show (d + 1) * 40 ≤ (d + 2) * 40 + 100; omega) (Nat.le_refl _) (Nat.le_refl _) (fun H' locs' w' hag hpt' => ?_)
  refine lv_i2l hx hb dL_ask_8 rfl ?_
  exact lw_tailL F hpt' hag dL_ask_9 dL_ask_10 (by decide) dL_ask_21 dL_ask_22
set_option maxRecDepth 100000 in
theorem wx_ask_2 {l : Launch} {D : va_G} {N d x : Nat} {fs : List Value} {σ σ1 : XS} {v : Nat → Int64} {a1 a2 : Int32} (hls : l.stackTraces = false) (hc : xcallX N d 80 [.ref x, .int a1, .int a2] σ = some (2, σ1)) (hxn : x < σ.1) (hf : σ.2.2 x = .inl (9, fs)) : lwMet l D d yL_ask lws_ask (fun w qo => [.ref (w.1 x), .int a1, .int a2, .ref qo]) σ v 1 σ1 v (0 + (σ1.1 - σ.1 + 1)) (0 + (σ1.2.1 - σ.2.1 + 6)) := by
  refine lw_enter (by decide +kernel) rfl (fun w qo => Nat.le_of_ble_eq_true rfl) (fun p e s m args below meth c w qo cL A ls F hpt hl => ?_)
  have hl : lv_has ls 5 [(0, .ref (w.1 x)), (1, .int a1), (2, .int a2), (3, .ref qo)] := hl
  obtain ⟨hx, hb, hml, hown, hts, htn, hz, hnc, hr, hlocks, htab, hA⟩ := id F
  refine lv_aload_n hx hb dL_ask_0 rfl (lv_at hl 3 rfl) ?_
  refine lv_iconst (v := 0) hx hb dL_ask_1 (by decide) ?_
  refine lv_aload_n hx hb dL_ask_2 rfl (lv_at hl 0 rfl) ?_
  refine lv_iload_n hx hb dL_ask_3 rfl (lv_at hl 1 rfl) ?_
  refine lv_iload_n hx hb dL_ask_4 rfl (lv_at hl 2 rfl) ?_
  refine lw_callX (is := [.int a1, .int a2]) (rest := [.int 0, .ref qo]) (w := w) hls hc hx hb hml hown hts htn hA hz hpt hxn hf rfl (by decide) (xok_ints [a1, a2]) rfl (xt3 165 rfl rfl) (xt3 166 rfl rfl) (xt3 167 rfl rfl) hl.1 (Nat.le_of_ble_eq_true rfl) dL_ask_5 (by show d + 7 ≤ d + 8; omega) (by show (d + 1) * 40 + 100 ≤ (d + 2) * 40 + 100; omega) (Nat.le_refl _) (Nat.le_refl _) (fun H' locs' w' q ce hag hpt' h1 h2 h3 => ?_)
  exact lw_caught (E := 2) (nm := "java/lang/IndexOutOfBoundsException") F hpt' hag h1 h2 h3 rfl [] ⟨0, 10, 13, 21⟩ [⟨0, 10, 17, 13⟩] rfl (fun z hz => nomatch hz) (by decide) (by decide) (xt2 115 rfl rfl) (by decide) (lv_sub hl [] rfl) (by decide) dL_ask_13 dL_ask_15 rfl dL_ask_16
set_option maxRecDepth 100000 in
theorem wx_ask_0 {l : Launch} {D : va_G} {N d x : Nat} {fs : List Value} {σ σ1 : XS} {v : Nat → Int64} {a1 a2 : Int32} (hls : l.stackTraces = false) (hc : xcallX N d 80 [.ref x, .int a1, .int a2] σ = some (0, σ1)) (hxn : x < σ.1) (hf : σ.2.2 x = .inl (9, fs)) : lwMet l D d yL_ask lws_ask (fun w qo => [.ref (w.1 x), .int a1, .int a2, .ref qo]) σ v 2 σ1 v (0 + (σ1.1 - σ.1 + 1)) (0 + (σ1.2.1 - σ.2.1 + 6)) := by
  refine lw_enter (by decide +kernel) rfl (fun w qo => Nat.le_of_ble_eq_true rfl) (fun p e s m args below meth c w qo cL A ls F hpt hl => ?_)
  have hl : lv_has ls 5 [(0, .ref (w.1 x)), (1, .int a1), (2, .int a2), (3, .ref qo)] := hl
  obtain ⟨hx, hb, hml, hown, hts, htn, hz, hnc, hr, hlocks, htab, hA⟩ := id F
  refine lv_aload_n hx hb dL_ask_0 rfl (lv_at hl 3 rfl) ?_
  refine lv_iconst (v := 0) hx hb dL_ask_1 (by decide) ?_
  refine lv_aload_n hx hb dL_ask_2 rfl (lv_at hl 0 rfl) ?_
  refine lv_iload_n hx hb dL_ask_3 rfl (lv_at hl 1 rfl) ?_
  refine lv_iload_n hx hb dL_ask_4 rfl (lv_at hl 2 rfl) ?_
  refine lw_callX (is := [.int a1, .int a2]) (rest := [.int 0, .ref qo]) (w := w) hls hc hx hb hml hown hts htn hA hz hpt hxn hf rfl (by decide) (xok_ints [a1, a2]) rfl (xt3 165 rfl rfl) (xt3 166 rfl rfl) (xt3 167 rfl rfl) hl.1 (Nat.le_of_ble_eq_true rfl) dL_ask_5 (by show d + 7 ≤ d + 8; omega) (by show (d + 1) * 40 + 100 ≤ (d + 2) * 40 + 100; omega) (Nat.le_refl _) (Nat.le_refl _) (fun H' locs' w' q ce hag hpt' h1 h2 h3 => ?_)
  exact lw_caught (E := 0) (nm := "java/lang/IllegalArgumentException") F hpt' hag h1 h2 h3 rfl [⟨0, 10, 13, 21⟩] ⟨0, 10, 17, 13⟩ [] rfl (List.forall_mem_cons.mpr ⟨⟨by decide, "java/lang/IndexOutOfBoundsException", (xt2 115 rfl rfl), by decide⟩, fun z hz => nomatch hz⟩) (by decide) (by decide) (xt2 11 rfl rfl) (by decide) (lv_sub hl [] rfl) (by decide) dL_ask_17 dL_ask_19 rfl dL_ask_20
def lws_reply : List Cond := .codeWith yL_reply cL_reply 5 (some .int) [(0, 10, 13, 21)] :: xT
set_option maxRecDepth 100000 in
theorem wn_reply {l : Launch} {D : va_G} {N d x : Nat} {fs : List Value} {σ σ1 : XS} {v : Nat → Int64} {a1 a2 : Int32} {r : Int32} (hc : xcall N d 81 [.ref x, .int a1, .int a2] σ = some (some (.int r), σ1)) (hxn : x < σ.1) (hf : σ.2.2 x = .inl (9, fs)) : lwMet l D d yL_reply lws_reply (fun w qo => [.ref (w.1 x), .int a1, .int a2, .ref qo]) σ v 0 σ1 (vp_updL v 0 r.toInt64) (0 + (σ1.1 - σ.1)) (0 + (σ1.2.1 - σ.2.1)) := by
  refine lw_enter (by decide +kernel) rfl (fun w qo => Nat.le_of_ble_eq_true rfl) (fun p e s m args below meth c w qo cL A ls F hpt hl => ?_)
  have hl : lv_has ls 5 [(0, .ref (w.1 x)), (1, .int a1), (2, .int a2), (3, .ref qo)] := hl
  obtain ⟨hx, hb, hml, hown, hts, htn, hz, hnc, hr, hlocks, htab, hA⟩ := id F
  refine lv_aload_n hx hb dL_reply_0 rfl (lv_at hl 3 rfl) ?_
  refine lv_iconst (v := 0) hx hb dL_reply_1 (by decide) ?_
  refine lv_aload_n hx hb dL_reply_2 rfl (lv_at hl 0 rfl) ?_
  refine lv_iload_n hx hb dL_reply_3 rfl (lv_at hl 1 rfl) ?_
  refine lv_iload_n hx hb dL_reply_4 rfl (lv_at hl 2 rfl) ?_
  refine lw_callN (is := [.int a1, .int a2]) (rest := [.int 0, .ref qo]) (w := w) hc hx hb hml hown hts htn hA hpt hxn hf rfl (by decide) (xok_ints [a1, a2]) rfl (xt3 176 rfl rfl) (xt3 177 rfl rfl) (xt3 178 rfl rfl) hl.1 (Nat.le_of_ble_eq_true rfl) dL_reply_5 (by show d + 1 ≤ d + 8; omega) (by show (d + 1) * 40 ≤ (d + 2) * 40 + 100; omega) (Nat.le_refl _) (Nat.le_refl _) (fun H' locs' w' hag hpt' => ?_)
  refine lv_i2l hx hb dL_reply_8 rfl ?_
  exact lw_tailL F hpt' hag dL_reply_9 dL_reply_10 (by decide) dL_reply_17 dL_reply_18
set_option maxRecDepth 100000 in
theorem wx_reply_2 {l : Launch} {D : va_G} {N d x : Nat} {fs : List Value} {σ σ1 : XS} {v : Nat → Int64} {a1 a2 : Int32} (hls : l.stackTraces = false) (hc : xcallX N d 81 [.ref x, .int a1, .int a2] σ = some (2, σ1)) (hxn : x < σ.1) (hf : σ.2.2 x = .inl (9, fs)) : lwMet l D d yL_reply lws_reply (fun w qo => [.ref (w.1 x), .int a1, .int a2, .ref qo]) σ v 1 σ1 v (0 + (σ1.1 - σ.1 + 1)) (0 + (σ1.2.1 - σ.2.1 + 6)) := by
  refine lw_enter (by decide +kernel) rfl (fun w qo => Nat.le_of_ble_eq_true rfl) (fun p e s m args below meth c w qo cL A ls F hpt hl => ?_)
  have hl : lv_has ls 5 [(0, .ref (w.1 x)), (1, .int a1), (2, .int a2), (3, .ref qo)] := hl
  obtain ⟨hx, hb, hml, hown, hts, htn, hz, hnc, hr, hlocks, htab, hA⟩ := id F
  refine lv_aload_n hx hb dL_reply_0 rfl (lv_at hl 3 rfl) ?_
  refine lv_iconst (v := 0) hx hb dL_reply_1 (by decide) ?_
  refine lv_aload_n hx hb dL_reply_2 rfl (lv_at hl 0 rfl) ?_
  refine lv_iload_n hx hb dL_reply_3 rfl (lv_at hl 1 rfl) ?_
  refine lv_iload_n hx hb dL_reply_4 rfl (lv_at hl 2 rfl) ?_
  refine lw_callX (is := [.int a1, .int a2]) (rest := [.int 0, .ref qo]) (w := w) hls hc hx hb hml hown hts htn hA hz hpt hxn hf rfl (by decide) (xok_ints [a1, a2]) rfl (xt3 176 rfl rfl) (xt3 177 rfl rfl) (xt3 178 rfl rfl) hl.1 (Nat.le_of_ble_eq_true rfl) dL_reply_5 (by show d + 7 ≤ d + 8; omega) (by show (d + 1) * 40 + 100 ≤ (d + 2) * 40 + 100; omega) (Nat.le_refl _) (Nat.le_refl _) (fun H' locs' w' q ce hag hpt' h1 h2 h3 => ?_)
  exact lw_caught (E := 2) (nm := "java/lang/IndexOutOfBoundsException") F hpt' hag h1 h2 h3 rfl [] ⟨0, 10, 13, 21⟩ [] rfl (fun z hz => nomatch hz) (by decide) (by decide) (xt2 115 rfl rfl) (by decide) (lv_sub hl [] rfl) (by decide) dL_reply_13 dL_reply_15 rfl dL_reply_16
def lws_lie : List Cond := .codeWith yL_lie cL_lie 4 (some .int) [(0, 16, 19, 21)] :: xT
set_option maxRecDepth 100000 in
theorem wn_lie {l : Launch} {D : va_G} {N d x : Nat} {fs : List Value} {σ σ1 : XS} {v : Nat → Int64} {a1 : Int32} {r : Int32} (hc : xcall N d 82 [.ref x, .int a1] σ = some (some (.int r), σ1)) (hxn : x < σ.1) (hf : σ.2.2 x = .inl (9, fs)) : lwMet l D d yL_lie lws_lie (fun w qo => [.ref (w.1 x), .int a1, .ref qo]) σ v 0 σ1 (vp_updL v 0 (if r = 0 then 0 else 1)) (0 + (σ1.1 - σ.1)) (0 + (σ1.2.1 - σ.2.1)) := by
  refine lw_enter (by decide +kernel) rfl (fun w qo => Nat.le_of_ble_eq_true rfl) (fun p e s m args below meth c w qo cL A ls F hpt hl => ?_)
  have hl : lv_has ls 4 [(0, .ref (w.1 x)), (1, .int a1), (2, .ref qo)] := hl
  obtain ⟨hx, hb, hml, hown, hts, htn, hz, hnc, hr, hlocks, htab, hA⟩ := id F
  refine lv_aload_n hx hb dL_lie_0 rfl (lv_at hl 2 rfl) ?_
  refine lv_iconst (v := 0) hx hb dL_lie_1 (by decide) ?_
  refine lv_aload_n hx hb dL_lie_2 rfl (lv_at hl 0 rfl) ?_
  refine lv_iload_n hx hb dL_lie_3 rfl (lv_at hl 1 rfl) ?_
  refine lw_callN (is := [.int a1]) (rest := [.int 0, .ref qo]) (w := w) hc hx hb hml hown hts htn hA hpt hxn hf rfl (by decide) (xok_ints [a1]) rfl (xt3 204 rfl rfl) (xt3 205 rfl rfl) (xt3 206 rfl rfl) hl.1 (Nat.le_of_ble_eq_true rfl) dL_lie_4 (by show d + 1 ≤ d + 8; omega) (by show (d + 1) * 40 ≤ (d + 2) * 40 + 100; omega) (Nat.le_refl _) (Nat.le_refl _) (fun H' locs' w' hag hpt' => ?_)
  refine lv_if_eq (tgt := 14) hx hb dL_lie_7 (by decide) (fun hc0 => ?_) (fun hc0 => ?_)
  · rw [if_pos hc0]
    refine lv_lconst (v := 0) hx hb dL_lie_14 (by decide) ?_
    exact lw_tailL F hpt' hag dL_lie_15 dL_lie_16 (by decide) dL_lie_22 dL_lie_23
  · rw [if_neg hc0]
    refine lv_lconst (v := 1) hx hb dL_lie_10 (by decide) ?_
    refine lv_goto (tgt := 15) hx hb dL_lie_11 (by decide) ?_
    exact lw_tailL F hpt' hag dL_lie_15 dL_lie_16 (by decide) dL_lie_22 dL_lie_23
set_option maxRecDepth 100000 in
theorem wx_lie_2 {l : Launch} {D : va_G} {N d x : Nat} {fs : List Value} {σ σ1 : XS} {v : Nat → Int64} {a1 : Int32} (hls : l.stackTraces = false) (hc : xcallX N d 82 [.ref x, .int a1] σ = some (2, σ1)) (hxn : x < σ.1) (hf : σ.2.2 x = .inl (9, fs)) : lwMet l D d yL_lie lws_lie (fun w qo => [.ref (w.1 x), .int a1, .ref qo]) σ v 1 σ1 v (0 + (σ1.1 - σ.1 + 1)) (0 + (σ1.2.1 - σ.2.1 + 6)) := by
  refine lw_enter (by decide +kernel) rfl (fun w qo => Nat.le_of_ble_eq_true rfl) (fun p e s m args below meth c w qo cL A ls F hpt hl => ?_)
  have hl : lv_has ls 4 [(0, .ref (w.1 x)), (1, .int a1), (2, .ref qo)] := hl
  obtain ⟨hx, hb, hml, hown, hts, htn, hz, hnc, hr, hlocks, htab, hA⟩ := id F
  refine lv_aload_n hx hb dL_lie_0 rfl (lv_at hl 2 rfl) ?_
  refine lv_iconst (v := 0) hx hb dL_lie_1 (by decide) ?_
  refine lv_aload_n hx hb dL_lie_2 rfl (lv_at hl 0 rfl) ?_
  refine lv_iload_n hx hb dL_lie_3 rfl (lv_at hl 1 rfl) ?_
  refine lw_callX (is := [.int a1]) (rest := [.int 0, .ref qo]) (w := w) hls hc hx hb hml hown hts htn hA hz hpt hxn hf rfl (by decide) (xok_ints [a1]) rfl (xt3 204 rfl rfl) (xt3 205 rfl rfl) (xt3 206 rfl rfl) hl.1 (Nat.le_of_ble_eq_true rfl) dL_lie_4 (by show d + 7 ≤ d + 8; omega) (by show (d + 1) * 40 + 100 ≤ (d + 2) * 40 + 100; omega) (Nat.le_refl _) (Nat.le_refl _) (fun H' locs' w' q ce hag hpt' h1 h2 h3 => ?_)
  exact lw_caught1 (E := 2) (nm := "java/lang/IndexOutOfBoundsException") F hpt' hag h1 h2 h3 rfl [] ⟨0, 16, 19, 21⟩ [] rfl (fun z hz => nomatch hz) (by decide) (by decide) (xt2 115 rfl rfl) (by decide) (lv_sub hl [] rfl) (by decide) dL_lie_19 dL_lie_20 rfl dL_lie_21
def lws_certify : List Cond := .codeWith yL_certify cL_certify 8 (some .int) [(0, 16, 19, 21), (0, 16, 23, 15), (0, 16, 27, 13)] :: xT
set_option maxRecDepth 100000 in
theorem wn_certify {l : Launch} {D : va_G} {N d x : Nat} {fs : List Value} {σ σ1 : XS} {v : Nat → Int64} {a1 a2 a3 a4 a5 : Int32} {r : Int32} (hc : xcall N d 83 [.ref x, .int a1, .int a2, .int a3, .int a4, .int a5] σ = some (some (.int r), σ1)) (hxn : x < σ.1) (hf : σ.2.2 x = .inl (9, fs)) : lwMet l D d yL_certify lws_certify (fun w qo => [.ref (w.1 x), .int a1, .int a2, .int a3, .int a4, .int a5, .ref qo]) σ v 0 σ1 (vp_updL v 0 r.toInt64) (0 + (σ1.1 - σ.1)) (0 + (σ1.2.1 - σ.2.1)) := by
  refine lw_enter (by decide +kernel) rfl (fun w qo => Nat.le_of_ble_eq_true rfl) (fun p e s m args below meth c w qo cL A ls F hpt hl => ?_)
  have hl : lv_has ls 8 [(0, .ref (w.1 x)), (1, .int a1), (2, .int a2), (3, .int a3), (4, .int a4), (5, .int a5), (6, .ref qo)] := hl
  obtain ⟨hx, hb, hml, hown, hts, htn, hz, hnc, hr, hlocks, htab, hA⟩ := id F
  refine lv_aload hx hb dL_certify_0 (lv_at hl 6 rfl) ?_
  refine lv_iconst (v := 0) hx hb dL_certify_2 (by decide) ?_
  refine lv_aload_n hx hb dL_certify_3 rfl (lv_at hl 0 rfl) ?_
  refine lv_iload_n hx hb dL_certify_4 rfl (lv_at hl 1 rfl) ?_
  refine lv_iload_n hx hb dL_certify_5 rfl (lv_at hl 2 rfl) ?_
  refine lv_iload_n hx hb dL_certify_6 rfl (lv_at hl 3 rfl) ?_
  refine lv_iload hx hb dL_certify_7 (lv_at hl 4 rfl) ?_
  refine lv_iload hx hb dL_certify_9 (lv_at hl 5 rfl) ?_
  refine lw_callN (is := [.int a1, .int a2, .int a3, .int a4, .int a5]) (rest := [.int 0, .ref qo]) (w := w) hc hx hb hml hown hts htn hA hpt hxn hf rfl (by decide) (xok_ints [a1, a2, a3, a4, a5]) rfl (xt3 215 rfl rfl) (xt3 216 rfl rfl) (xt3 217 rfl rfl) hl.1 (Nat.le_of_ble_eq_true rfl) dL_certify_11 (by show d + 1 ≤ d + 8; omega) (by show (d + 1) * 40 ≤ (d + 2) * 40 + 100; omega) (Nat.le_refl _) (Nat.le_refl _) (fun H' locs' w' hag hpt' => ?_)
  refine lv_i2l hx hb dL_certify_14 rfl ?_
  exact lw_tailL F hpt' hag dL_certify_15 dL_certify_16 (by decide) dL_certify_31 dL_certify_32
set_option maxRecDepth 100000 in
theorem wx_certify_2 {l : Launch} {D : va_G} {N d x : Nat} {fs : List Value} {σ σ1 : XS} {v : Nat → Int64} {a1 a2 a3 a4 a5 : Int32} (hls : l.stackTraces = false) (hc : xcallX N d 83 [.ref x, .int a1, .int a2, .int a3, .int a4, .int a5] σ = some (2, σ1)) (hxn : x < σ.1) (hf : σ.2.2 x = .inl (9, fs)) : lwMet l D d yL_certify lws_certify (fun w qo => [.ref (w.1 x), .int a1, .int a2, .int a3, .int a4, .int a5, .ref qo]) σ v 1 σ1 v (0 + (σ1.1 - σ.1 + 1)) (0 + (σ1.2.1 - σ.2.1 + 6)) := by
  refine lw_enter (by decide +kernel) rfl (fun w qo => Nat.le_of_ble_eq_true rfl) (fun p e s m args below meth c w qo cL A ls F hpt hl => ?_)
  have hl : lv_has ls 8 [(0, .ref (w.1 x)), (1, .int a1), (2, .int a2), (3, .int a3), (4, .int a4), (5, .int a5), (6, .ref qo)] := hl
  obtain ⟨hx, hb, hml, hown, hts, htn, hz, hnc, hr, hlocks, htab, hA⟩ := id F
  refine lv_aload hx hb dL_certify_0 (lv_at hl 6 rfl) ?_
  refine lv_iconst (v := 0) hx hb dL_certify_2 (by decide) ?_
  refine lv_aload_n hx hb dL_certify_3 rfl (lv_at hl 0 rfl) ?_
  refine lv_iload_n hx hb dL_certify_4 rfl (lv_at hl 1 rfl) ?_
  refine lv_iload_n hx hb dL_certify_5 rfl (lv_at hl 2 rfl) ?_
  refine lv_iload_n hx hb dL_certify_6 rfl (lv_at hl 3 rfl) ?_
  refine lv_iload hx hb dL_certify_7 (lv_at hl 4 rfl) ?_
  refine lv_iload hx hb dL_certify_9 (lv_at hl 5 rfl) ?_
  refine lw_callX (is := [.int a1, .int a2, .int a3, .int a4, .int a5]) (rest := [.int 0, .ref qo]) (w := w) hls hc hx hb hml hown hts htn hA hz hpt hxn hf rfl (by decide) (xok_ints [a1, a2, a3, a4, a5]) rfl (xt3 215 rfl rfl) (xt3 216 rfl rfl) (xt3 217 rfl rfl) hl.1 (Nat.le_of_ble_eq_true rfl) dL_certify_11 (by show d + 7 ≤ d + 8; omega) (by show (d + 1) * 40 + 100 ≤ (d + 2) * 40 + 100; omega) (Nat.le_refl _) (Nat.le_refl _) (fun H' locs' w' q ce hag hpt' h1 h2 h3 => ?_)
  exact lw_caught (E := 2) (nm := "java/lang/IndexOutOfBoundsException") F hpt' hag h1 h2 h3 rfl [] ⟨0, 16, 19, 21⟩ [⟨0, 16, 23, 15⟩, ⟨0, 16, 27, 13⟩] rfl (fun z hz => nomatch hz) (by decide) (by decide) (xt2 115 rfl rfl) (by decide) (lv_sub hl [] rfl) (by decide) dL_certify_19 dL_certify_21 rfl dL_certify_22
set_option maxRecDepth 100000 in
theorem wx_certify_1 {l : Launch} {D : va_G} {N d x : Nat} {fs : List Value} {σ σ1 : XS} {v : Nat → Int64} {a1 a2 a3 a4 a5 : Int32} (hls : l.stackTraces = false) (hc : xcallX N d 83 [.ref x, .int a1, .int a2, .int a3, .int a4, .int a5] σ = some (1, σ1)) (hxn : x < σ.1) (hf : σ.2.2 x = .inl (9, fs)) : lwMet l D d yL_certify lws_certify (fun w qo => [.ref (w.1 x), .int a1, .int a2, .int a3, .int a4, .int a5, .ref qo]) σ v 2 σ1 v (0 + (σ1.1 - σ.1 + 1)) (0 + (σ1.2.1 - σ.2.1 + 6)) := by
  refine lw_enter (by decide +kernel) rfl (fun w qo => Nat.le_of_ble_eq_true rfl) (fun p e s m args below meth c w qo cL A ls F hpt hl => ?_)
  have hl : lv_has ls 8 [(0, .ref (w.1 x)), (1, .int a1), (2, .int a2), (3, .int a3), (4, .int a4), (5, .int a5), (6, .ref qo)] := hl
  obtain ⟨hx, hb, hml, hown, hts, htn, hz, hnc, hr, hlocks, htab, hA⟩ := id F
  refine lv_aload hx hb dL_certify_0 (lv_at hl 6 rfl) ?_
  refine lv_iconst (v := 0) hx hb dL_certify_2 (by decide) ?_
  refine lv_aload_n hx hb dL_certify_3 rfl (lv_at hl 0 rfl) ?_
  refine lv_iload_n hx hb dL_certify_4 rfl (lv_at hl 1 rfl) ?_
  refine lv_iload_n hx hb dL_certify_5 rfl (lv_at hl 2 rfl) ?_
  refine lv_iload_n hx hb dL_certify_6 rfl (lv_at hl 3 rfl) ?_
  refine lv_iload hx hb dL_certify_7 (lv_at hl 4 rfl) ?_
  refine lv_iload hx hb dL_certify_9 (lv_at hl 5 rfl) ?_
  refine lw_callX (is := [.int a1, .int a2, .int a3, .int a4, .int a5]) (rest := [.int 0, .ref qo]) (w := w) hls hc hx hb hml hown hts htn hA hz hpt hxn hf rfl (by decide) (xok_ints [a1, a2, a3, a4, a5]) rfl (xt3 215 rfl rfl) (xt3 216 rfl rfl) (xt3 217 rfl rfl) hl.1 (Nat.le_of_ble_eq_true rfl) dL_certify_11 (by show d + 7 ≤ d + 8; omega) (by show (d + 1) * 40 + 100 ≤ (d + 2) * 40 + 100; omega) (Nat.le_refl _) (Nat.le_refl _) (fun H' locs' w' q ce hag hpt' h1 h2 h3 => ?_)
  exact lw_caught (E := 1) (nm := "java/lang/IllegalStateException") F hpt' hag h1 h2 h3 rfl [⟨0, 16, 19, 21⟩] ⟨0, 16, 23, 15⟩ [⟨0, 16, 27, 13⟩] rfl (List.forall_mem_cons.mpr ⟨⟨by decide, "java/lang/IndexOutOfBoundsException", (xt2 115 rfl rfl), by decide⟩, fun z hz => nomatch hz⟩) (by decide) (by decide) (xt2 12 rfl rfl) (by decide) (lv_sub hl [] rfl) (by decide) dL_certify_23 dL_certify_25 rfl dL_certify_26
set_option maxRecDepth 100000 in
theorem wx_certify_0 {l : Launch} {D : va_G} {N d x : Nat} {fs : List Value} {σ σ1 : XS} {v : Nat → Int64} {a1 a2 a3 a4 a5 : Int32} (hls : l.stackTraces = false) (hc : xcallX N d 83 [.ref x, .int a1, .int a2, .int a3, .int a4, .int a5] σ = some (0, σ1)) (hxn : x < σ.1) (hf : σ.2.2 x = .inl (9, fs)) : lwMet l D d yL_certify lws_certify (fun w qo => [.ref (w.1 x), .int a1, .int a2, .int a3, .int a4, .int a5, .ref qo]) σ v 3 σ1 v (0 + (σ1.1 - σ.1 + 1)) (0 + (σ1.2.1 - σ.2.1 + 6)) := by
  refine lw_enter (by decide +kernel) rfl (fun w qo => Nat.le_of_ble_eq_true rfl) (fun p e s m args below meth c w qo cL A ls F hpt hl => ?_)
  have hl : lv_has ls 8 [(0, .ref (w.1 x)), (1, .int a1), (2, .int a2), (3, .int a3), (4, .int a4), (5, .int a5), (6, .ref qo)] := hl
  obtain ⟨hx, hb, hml, hown, hts, htn, hz, hnc, hr, hlocks, htab, hA⟩ := id F
  refine lv_aload hx hb dL_certify_0 (lv_at hl 6 rfl) ?_
  refine lv_iconst (v := 0) hx hb dL_certify_2 (by decide) ?_
  refine lv_aload_n hx hb dL_certify_3 rfl (lv_at hl 0 rfl) ?_
  refine lv_iload_n hx hb dL_certify_4 rfl (lv_at hl 1 rfl) ?_
  refine lv_iload_n hx hb dL_certify_5 rfl (lv_at hl 2 rfl) ?_
  refine lv_iload_n hx hb dL_certify_6 rfl (lv_at hl 3 rfl) ?_
  refine lv_iload hx hb dL_certify_7 (lv_at hl 4 rfl) ?_
  refine lv_iload hx hb dL_certify_9 (lv_at hl 5 rfl) ?_
  refine lw_callX (is := [.int a1, .int a2, .int a3, .int a4, .int a5]) (rest := [.int 0, .ref qo]) (w := w) hls hc hx hb hml hown hts htn hA hz hpt hxn hf rfl (by decide) (xok_ints [a1, a2, a3, a4, a5]) rfl (xt3 215 rfl rfl) (xt3 216 rfl rfl) (xt3 217 rfl rfl) hl.1 (Nat.le_of_ble_eq_true rfl) dL_certify_11 (by show d + 7 ≤ d + 8; omega) (by show (d + 1) * 40 + 100 ≤ (d + 2) * 40 + 100; omega) (Nat.le_refl _) (Nat.le_refl _) (fun H' locs' w' q ce hag hpt' h1 h2 h3 => ?_)
  exact lw_caught (E := 0) (nm := "java/lang/IllegalArgumentException") F hpt' hag h1 h2 h3 rfl [⟨0, 16, 19, 21⟩, ⟨0, 16, 23, 15⟩] ⟨0, 16, 27, 13⟩ [] rfl (List.forall_mem_cons.mpr ⟨⟨by decide, "java/lang/IndexOutOfBoundsException", (xt2 115 rfl rfl), by decide⟩, List.forall_mem_cons.mpr ⟨⟨by decide, "java/lang/IllegalStateException", (xt2 12 rfl rfl), by decide⟩, fun z hz => nomatch hz⟩⟩) (by decide) (by decide) (xt2 11 rfl rfl) (by decide) (lv_sub hl [] rfl) (by decide) dL_certify_27 dL_certify_29 rfl dL_certify_30
def lws_askFor : List Cond := .codeWith yL_askFor cL_askFor 4 (some .int) [(0, 6, 9, 21), (0, 6, 12, 15), (0, 6, 15, 13)] :: xT
set_option maxRecDepth 100000 in
theorem wn_askFor {l : Launch} {D : va_G} {N d x : Nat} {fs : List Value} {σ σ1 : XS} {v : Nat → Int64} {a1 a2 : Int32}  (hc : xcall N d 84 [.ref x, .int a1, .int a2] σ = some (none, σ1)) (hxn : x < σ.1) (hf : σ.2.2 x = .inl (9, fs)) : lwMet l D d yL_askFor lws_askFor (fun w qo => [.ref (w.1 x), .int a1, .int a2]) σ v 0 σ1 v (0 + (σ1.1 - σ.1)) (0 + (σ1.2.1 - σ.2.1)) := by
  refine lw_enter (by decide +kernel) rfl (fun w qo => Nat.le_of_ble_eq_true rfl) (fun p e s m args below meth c w qo cL A ls F hpt hl => ?_)
  have hl : lv_has ls 4 [(0, .ref (w.1 x)), (1, .int a1), (2, .int a2)] := hl
  obtain ⟨hx, hb, hml, hown, hts, htn, hz, hnc, hr, hlocks, htab, hA⟩ := id F
  refine lv_aload_n hx hb dL_askFor_0 rfl (lv_at hl 0 rfl) ?_
  refine lv_iload_n hx hb dL_askFor_1 rfl (lv_at hl 1 rfl) ?_
  refine lv_iload_n hx hb dL_askFor_2 rfl (lv_at hl 2 rfl) ?_
  refine lw_callN (is := [.int a1, .int a2]) (rest := []) (w := w) hc hx hb hml hown hts htn hA hpt hxn hf rfl (by decide) (xok_ints [a1, a2]) rfl (xt3 238 rfl rfl) (xt3 239 rfl rfl) (xt4 0 rfl rfl) hl.1 (Nat.le_of_ble_eq_true rfl) dL_askFor_3 (by show d + 1 ≤ d + 8; omega) (by show (d + 1) * 40 ≤ (d + 2) * 40 + 100; omega) (Nat.le_refl _) (Nat.le_refl _) (fun H' locs' w' hag hpt' => ?_)
  refine lv_goto (tgt := 18) hx hb dL_askFor_6 (by decide) ?_
  refine lv_iconst (v := 0) hx hb dL_askFor_18 (by decide) ?_
  exact lw_ret1 F hpt' hag dL_askFor_19
set_option maxRecDepth 100000 in
theorem wx_askFor_2 {l : Launch} {D : va_G} {N d x : Nat} {fs : List Value} {σ σ1 : XS} {v : Nat → Int64} {a1 a2 : Int32} (hls : l.stackTraces = false) (hc : xcallX N d 84 [.ref x, .int a1, .int a2] σ = some (2, σ1)) (hxn : x < σ.1) (hf : σ.2.2 x = .inl (9, fs)) : lwMet l D d yL_askFor lws_askFor (fun w qo => [.ref (w.1 x), .int a1, .int a2]) σ v 1 σ1 v (0 + (σ1.1 - σ.1 + 1)) (0 + (σ1.2.1 - σ.2.1 + 6)) := by
  refine lw_enter (by decide +kernel) rfl (fun w qo => Nat.le_of_ble_eq_true rfl) (fun p e s m args below meth c w qo cL A ls F hpt hl => ?_)
  have hl : lv_has ls 4 [(0, .ref (w.1 x)), (1, .int a1), (2, .int a2)] := hl
  obtain ⟨hx, hb, hml, hown, hts, htn, hz, hnc, hr, hlocks, htab, hA⟩ := id F
  refine lv_aload_n hx hb dL_askFor_0 rfl (lv_at hl 0 rfl) ?_
  refine lv_iload_n hx hb dL_askFor_1 rfl (lv_at hl 1 rfl) ?_
  refine lv_iload_n hx hb dL_askFor_2 rfl (lv_at hl 2 rfl) ?_
  refine lw_callX (is := [.int a1, .int a2]) (rest := []) (w := w) hls hc hx hb hml hown hts htn hA hz hpt hxn hf rfl (by decide) (xok_ints [a1, a2]) rfl (xt3 238 rfl rfl) (xt3 239 rfl rfl) (xt4 0 rfl rfl) hl.1 (Nat.le_of_ble_eq_true rfl) dL_askFor_3 (by show d + 7 ≤ d + 8; omega) (by show (d + 1) * 40 + 100 ≤ (d + 2) * 40 + 100; omega) (Nat.le_refl _) (Nat.le_refl _) (fun H' locs' w' q ce hag hpt' h1 h2 h3 => ?_)
  exact lw_caught1 (E := 2) (nm := "java/lang/IndexOutOfBoundsException") F hpt' hag h1 h2 h3 rfl [] ⟨0, 6, 9, 21⟩ [⟨0, 6, 12, 15⟩, ⟨0, 6, 15, 13⟩] rfl (fun z hz => nomatch hz) (by decide) (by decide) (xt2 115 rfl rfl) (by decide) (lv_sub hl [] rfl) (by decide) dL_askFor_9 dL_askFor_10 rfl dL_askFor_11
set_option maxRecDepth 100000 in
theorem wx_askFor_1 {l : Launch} {D : va_G} {N d x : Nat} {fs : List Value} {σ σ1 : XS} {v : Nat → Int64} {a1 a2 : Int32} (hls : l.stackTraces = false) (hc : xcallX N d 84 [.ref x, .int a1, .int a2] σ = some (1, σ1)) (hxn : x < σ.1) (hf : σ.2.2 x = .inl (9, fs)) : lwMet l D d yL_askFor lws_askFor (fun w qo => [.ref (w.1 x), .int a1, .int a2]) σ v 2 σ1 v (0 + (σ1.1 - σ.1 + 1)) (0 + (σ1.2.1 - σ.2.1 + 6)) := by
  refine lw_enter (by decide +kernel) rfl (fun w qo => Nat.le_of_ble_eq_true rfl) (fun p e s m args below meth c w qo cL A ls F hpt hl => ?_)
  have hl : lv_has ls 4 [(0, .ref (w.1 x)), (1, .int a1), (2, .int a2)] := hl
  obtain ⟨hx, hb, hml, hown, hts, htn, hz, hnc, hr, hlocks, htab, hA⟩ := id F
  refine lv_aload_n hx hb dL_askFor_0 rfl (lv_at hl 0 rfl) ?_
  refine lv_iload_n hx hb dL_askFor_1 rfl (lv_at hl 1 rfl) ?_
  refine lv_iload_n hx hb dL_askFor_2 rfl (lv_at hl 2 rfl) ?_
  refine lw_callX (is := [.int a1, .int a2]) (rest := []) (w := w) hls hc hx hb hml hown hts htn hA hz hpt hxn hf rfl (by decide) (xok_ints [a1, a2]) rfl (xt3 238 rfl rfl) (xt3 239 rfl rfl) (xt4 0 rfl rfl) hl.1 (Nat.le_of_ble_eq_true rfl) dL_askFor_3 (by show d + 7 ≤ d + 8; omega) (by show (d + 1) * 40 + 100 ≤ (d + 2) * 40 + 100; omega) (Nat.le_refl _) (Nat.le_refl _) (fun H' locs' w' q ce hag hpt' h1 h2 h3 => ?_)
  exact lw_caught1 (E := 1) (nm := "java/lang/IllegalStateException") F hpt' hag h1 h2 h3 rfl [⟨0, 6, 9, 21⟩] ⟨0, 6, 12, 15⟩ [⟨0, 6, 15, 13⟩] rfl (List.forall_mem_cons.mpr ⟨⟨by decide, "java/lang/IndexOutOfBoundsException", (xt2 115 rfl rfl), by decide⟩, fun z hz => nomatch hz⟩) (by decide) (by decide) (xt2 12 rfl rfl) (by decide) (lv_sub hl [] rfl) (by decide) dL_askFor_12 dL_askFor_13 rfl dL_askFor_14
set_option maxRecDepth 100000 in
theorem wx_askFor_0 {l : Launch} {D : va_G} {N d x : Nat} {fs : List Value} {σ σ1 : XS} {v : Nat → Int64} {a1 a2 : Int32} (hls : l.stackTraces = false) (hc : xcallX N d 84 [.ref x, .int a1, .int a2] σ = some (0, σ1)) (hxn : x < σ.1) (hf : σ.2.2 x = .inl (9, fs)) : lwMet l D d yL_askFor lws_askFor (fun w qo => [.ref (w.1 x), .int a1, .int a2]) σ v 3 σ1 v (0 + (σ1.1 - σ.1 + 1)) (0 + (σ1.2.1 - σ.2.1 + 6)) := by
  refine lw_enter (by decide +kernel) rfl (fun w qo => Nat.le_of_ble_eq_true rfl) (fun p e s m args below meth c w qo cL A ls F hpt hl => ?_)
  have hl : lv_has ls 4 [(0, .ref (w.1 x)), (1, .int a1), (2, .int a2)] := hl
  obtain ⟨hx, hb, hml, hown, hts, htn, hz, hnc, hr, hlocks, htab, hA⟩ := id F
  refine lv_aload_n hx hb dL_askFor_0 rfl (lv_at hl 0 rfl) ?_
  refine lv_iload_n hx hb dL_askFor_1 rfl (lv_at hl 1 rfl) ?_
  refine lv_iload_n hx hb dL_askFor_2 rfl (lv_at hl 2 rfl) ?_
  refine lw_callX (is := [.int a1, .int a2]) (rest := []) (w := w) hls hc hx hb hml hown hts htn hA hz hpt hxn hf rfl (by decide) (xok_ints [a1, a2]) rfl (xt3 238 rfl rfl) (xt3 239 rfl rfl) (xt4 0 rfl rfl) hl.1 (Nat.le_of_ble_eq_true rfl) dL_askFor_3 (by show d + 7 ≤ d + 8; omega) (by show (d + 1) * 40 + 100 ≤ (d + 2) * 40 + 100; omega) (Nat.le_refl _) (Nat.le_refl _) (fun H' locs' w' q ce hag hpt' h1 h2 h3 => ?_)
  exact lw_caught1 (E := 0) (nm := "java/lang/IllegalArgumentException") F hpt' hag h1 h2 h3 rfl [⟨0, 6, 9, 21⟩, ⟨0, 6, 12, 15⟩] ⟨0, 6, 15, 13⟩ [] rfl (List.forall_mem_cons.mpr ⟨⟨by decide, "java/lang/IndexOutOfBoundsException", (xt2 115 rfl rfl), by decide⟩, List.forall_mem_cons.mpr ⟨⟨by decide, "java/lang/IllegalStateException", (xt2 12 rfl rfl), by decide⟩, fun z hz => nomatch hz⟩⟩) (by decide) (by decide) (xt2 11 rfl rfl) (by decide) (lv_sub hl [] rfl) (by decide) dL_askFor_15 dL_askFor_16 rfl dL_askFor_17
def lws_replyWith : List Cond := .codeWith yL_replyWith cL_replyWith 5 (some .int) [(0, 7, 10, 21), (0, 7, 14, 15)] :: xT
set_option maxRecDepth 100000 in
theorem wn_replyWith {l : Launch} {D : va_G} {N d x : Nat} {fs : List Value} {σ σ1 : XS} {v : Nat → Int64} {a1 a2 a3 : Int32}  (hc : xcall N d 85 [.ref x, .int a1, .int a2, .int a3] σ = some (none, σ1)) (hxn : x < σ.1) (hf : σ.2.2 x = .inl (9, fs)) : lwMet l D d yL_replyWith lws_replyWith (fun w qo => [.ref (w.1 x), .int a1, .int a2, .int a3]) σ v 0 σ1 v (0 + (σ1.1 - σ.1)) (0 + (σ1.2.1 - σ.2.1)) := by
  refine lw_enter (by decide +kernel) rfl (fun w qo => Nat.le_of_ble_eq_true rfl) (fun p e s m args below meth c w qo cL A ls F hpt hl => ?_)
  have hl : lv_has ls 5 [(0, .ref (w.1 x)), (1, .int a1), (2, .int a2), (3, .int a3)] := hl
  obtain ⟨hx, hb, hml, hown, hts, htn, hz, hnc, hr, hlocks, htab, hA⟩ := id F
  refine lv_aload_n hx hb dL_replyWith_0 rfl (lv_at hl 0 rfl) ?_
  refine lv_iload_n hx hb dL_replyWith_1 rfl (lv_at hl 1 rfl) ?_
  refine lv_iload_n hx hb dL_replyWith_2 rfl (lv_at hl 2 rfl) ?_
  refine lv_iload_n hx hb dL_replyWith_3 rfl (lv_at hl 3 rfl) ?_
  refine lw_callN (is := [.int a1, .int a2, .int a3]) (rest := []) (w := w) hc hx hb hml hown hts htn hA hpt hxn hf rfl (by decide) (xok_ints [a1, a2, a3]) rfl (xt4 9 rfl rfl) (xt4 10 rfl rfl) (xt4 11 rfl rfl) hl.1 (Nat.le_of_ble_eq_true rfl) dL_replyWith_4 (by show d + 1 ≤ d + 8; omega) (by show (d + 1) * 40 ≤ (d + 2) * 40 + 100; omega) (Nat.le_refl _) (Nat.le_refl _) (fun H' locs' w' hag hpt' => ?_)
  refine lv_goto (tgt := 18) hx hb dL_replyWith_7 (by decide) ?_
  refine lv_iconst (v := 0) hx hb dL_replyWith_18 (by decide) ?_
  exact lw_ret1 F hpt' hag dL_replyWith_19
set_option maxRecDepth 100000 in
theorem wx_replyWith_2 {l : Launch} {D : va_G} {N d x : Nat} {fs : List Value} {σ σ1 : XS} {v : Nat → Int64} {a1 a2 a3 : Int32} (hls : l.stackTraces = false) (hc : xcallX N d 85 [.ref x, .int a1, .int a2, .int a3] σ = some (2, σ1)) (hxn : x < σ.1) (hf : σ.2.2 x = .inl (9, fs)) : lwMet l D d yL_replyWith lws_replyWith (fun w qo => [.ref (w.1 x), .int a1, .int a2, .int a3]) σ v 1 σ1 v (0 + (σ1.1 - σ.1 + 1)) (0 + (σ1.2.1 - σ.2.1 + 6)) := by
  refine lw_enter (by decide +kernel) rfl (fun w qo => Nat.le_of_ble_eq_true rfl) (fun p e s m args below meth c w qo cL A ls F hpt hl => ?_)
  have hl : lv_has ls 5 [(0, .ref (w.1 x)), (1, .int a1), (2, .int a2), (3, .int a3)] := hl
  obtain ⟨hx, hb, hml, hown, hts, htn, hz, hnc, hr, hlocks, htab, hA⟩ := id F
  refine lv_aload_n hx hb dL_replyWith_0 rfl (lv_at hl 0 rfl) ?_
  refine lv_iload_n hx hb dL_replyWith_1 rfl (lv_at hl 1 rfl) ?_
  refine lv_iload_n hx hb dL_replyWith_2 rfl (lv_at hl 2 rfl) ?_
  refine lv_iload_n hx hb dL_replyWith_3 rfl (lv_at hl 3 rfl) ?_
  refine lw_callX (is := [.int a1, .int a2, .int a3]) (rest := []) (w := w) hls hc hx hb hml hown hts htn hA hz hpt hxn hf rfl (by decide) (xok_ints [a1, a2, a3]) rfl (xt4 9 rfl rfl) (xt4 10 rfl rfl) (xt4 11 rfl rfl) hl.1 (Nat.le_of_ble_eq_true rfl) dL_replyWith_4 (by show d + 7 ≤ d + 8; omega) (by show (d + 1) * 40 + 100 ≤ (d + 2) * 40 + 100; omega) (Nat.le_refl _) (Nat.le_refl _) (fun H' locs' w' q ce hag hpt' h1 h2 h3 => ?_)
  exact lw_caught (E := 2) (nm := "java/lang/IndexOutOfBoundsException") F hpt' hag h1 h2 h3 rfl [] ⟨0, 7, 10, 21⟩ [⟨0, 7, 14, 15⟩] rfl (fun z hz => nomatch hz) (by decide) (by decide) (xt2 115 rfl rfl) (by decide) (lv_sub hl [] rfl) (by decide) dL_replyWith_10 dL_replyWith_12 rfl dL_replyWith_13
set_option maxRecDepth 100000 in
theorem wx_replyWith_1 {l : Launch} {D : va_G} {N d x : Nat} {fs : List Value} {σ σ1 : XS} {v : Nat → Int64} {a1 a2 a3 : Int32} (hls : l.stackTraces = false) (hc : xcallX N d 85 [.ref x, .int a1, .int a2, .int a3] σ = some (1, σ1)) (hxn : x < σ.1) (hf : σ.2.2 x = .inl (9, fs)) : lwMet l D d yL_replyWith lws_replyWith (fun w qo => [.ref (w.1 x), .int a1, .int a2, .int a3]) σ v 2 σ1 v (0 + (σ1.1 - σ.1 + 1)) (0 + (σ1.2.1 - σ.2.1 + 6)) := by
  refine lw_enter (by decide +kernel) rfl (fun w qo => Nat.le_of_ble_eq_true rfl) (fun p e s m args below meth c w qo cL A ls F hpt hl => ?_)
  have hl : lv_has ls 5 [(0, .ref (w.1 x)), (1, .int a1), (2, .int a2), (3, .int a3)] := hl
  obtain ⟨hx, hb, hml, hown, hts, htn, hz, hnc, hr, hlocks, htab, hA⟩ := id F
  refine lv_aload_n hx hb dL_replyWith_0 rfl (lv_at hl 0 rfl) ?_
  refine lv_iload_n hx hb dL_replyWith_1 rfl (lv_at hl 1 rfl) ?_
  refine lv_iload_n hx hb dL_replyWith_2 rfl (lv_at hl 2 rfl) ?_
  refine lv_iload_n hx hb dL_replyWith_3 rfl (lv_at hl 3 rfl) ?_
  refine lw_callX (is := [.int a1, .int a2, .int a3]) (rest := []) (w := w) hls hc hx hb hml hown hts htn hA hz hpt hxn hf rfl (by decide) (xok_ints [a1, a2, a3]) rfl (xt4 9 rfl rfl) (xt4 10 rfl rfl) (xt4 11 rfl rfl) hl.1 (Nat.le_of_ble_eq_true rfl) dL_replyWith_4 (by show d + 7 ≤ d + 8; omega) (by show (d + 1) * 40 + 100 ≤ (d + 2) * 40 + 100; omega) (Nat.le_refl _) (Nat.le_refl _) (fun H' locs' w' q ce hag hpt' h1 h2 h3 => ?_)
  exact lw_caught (E := 1) (nm := "java/lang/IllegalStateException") F hpt' hag h1 h2 h3 rfl [⟨0, 7, 10, 21⟩] ⟨0, 7, 14, 15⟩ [] rfl (List.forall_mem_cons.mpr ⟨⟨by decide, "java/lang/IndexOutOfBoundsException", (xt2 115 rfl rfl), by decide⟩, fun z hz => nomatch hz⟩) (by decide) (by decide) (xt2 12 rfl rfl) (by decide) (lv_sub hl [] rfl) (by decide) dL_replyWith_14 dL_replyWith_16 rfl dL_replyWith_17
def lws_state : List Cond := .codeWith yL_state cL_state 5 (some .int) [(0, 10, 13, 21), (0, 10, 17, 13)] :: xT
set_option maxRecDepth 100000 in
theorem wn_state {l : Launch} {D : va_G} {N d x : Nat} {fs : List Value} {σ σ1 : XS} {v : Nat → Int64} {a1 a2 : Int32} {r : Int32} (hc : xcall N d 86 [.ref x, .int a1, .int a2] σ = some (some (.int r), σ1)) (hxn : x < σ.1) (hf : σ.2.2 x = .inl (9, fs)) : lwMet l D d yL_state lws_state (fun w qo => [.ref (w.1 x), .int a1, .int a2, .ref qo]) σ v 0 σ1 (vp_updL v 0 r.toInt64) (0 + (σ1.1 - σ.1)) (0 + (σ1.2.1 - σ.2.1)) := by
  refine lw_enter (by decide +kernel) rfl (fun w qo => Nat.le_of_ble_eq_true rfl) (fun p e s m args below meth c w qo cL A ls F hpt hl => ?_)
  have hl : lv_has ls 5 [(0, .ref (w.1 x)), (1, .int a1), (2, .int a2), (3, .ref qo)] := hl
  obtain ⟨hx, hb, hml, hown, hts, htn, hz, hnc, hr, hlocks, htab, hA⟩ := id F
  refine lv_aload_n hx hb dL_state_0 rfl (lv_at hl 3 rfl) ?_
  refine lv_iconst (v := 0) hx hb dL_state_1 (by decide) ?_
  refine lv_aload_n hx hb dL_state_2 rfl (lv_at hl 0 rfl) ?_
  refine lv_iload_n hx hb dL_state_3 rfl (lv_at hl 1 rfl) ?_
  refine lv_iload_n hx hb dL_state_4 rfl (lv_at hl 2 rfl) ?_
  refine lw_callN (is := [.int a1, .int a2]) (rest := [.int 0, .ref qo]) (w := w) hc hx hb hml hown hts htn hA hpt hxn hf rfl (by decide) (xok_ints [a1, a2]) rfl (xt4 17 rfl rfl) (xt4 18 rfl rfl) (xt4 19 rfl rfl) hl.1 (Nat.le_of_ble_eq_true rfl) dL_state_5 (by show d + 1 ≤ d + 8; omega) (by show (d + 1) * 40 ≤ (d + 2) * 40 + 100; omega) (Nat.le_refl _) (Nat.le_refl _) (fun H' locs' w' hag hpt' => ?_)
  refine lv_i2l hx hb dL_state_8 rfl ?_
  exact lw_tailL F hpt' hag dL_state_9 dL_state_10 (by decide) dL_state_21 dL_state_22
set_option maxRecDepth 100000 in
theorem wx_state_2 {l : Launch} {D : va_G} {N d x : Nat} {fs : List Value} {σ σ1 : XS} {v : Nat → Int64} {a1 a2 : Int32} (hls : l.stackTraces = false) (hc : xcallX N d 86 [.ref x, .int a1, .int a2] σ = some (2, σ1)) (hxn : x < σ.1) (hf : σ.2.2 x = .inl (9, fs)) : lwMet l D d yL_state lws_state (fun w qo => [.ref (w.1 x), .int a1, .int a2, .ref qo]) σ v 1 σ1 v (0 + (σ1.1 - σ.1 + 1)) (0 + (σ1.2.1 - σ.2.1 + 6)) := by
  refine lw_enter (by decide +kernel) rfl (fun w qo => Nat.le_of_ble_eq_true rfl) (fun p e s m args below meth c w qo cL A ls F hpt hl => ?_)
  have hl : lv_has ls 5 [(0, .ref (w.1 x)), (1, .int a1), (2, .int a2), (3, .ref qo)] := hl
  obtain ⟨hx, hb, hml, hown, hts, htn, hz, hnc, hr, hlocks, htab, hA⟩ := id F
  refine lv_aload_n hx hb dL_state_0 rfl (lv_at hl 3 rfl) ?_
  refine lv_iconst (v := 0) hx hb dL_state_1 (by decide) ?_
  refine lv_aload_n hx hb dL_state_2 rfl (lv_at hl 0 rfl) ?_
  refine lv_iload_n hx hb dL_state_3 rfl (lv_at hl 1 rfl) ?_
  refine lv_iload_n hx hb dL_state_4 rfl (lv_at hl 2 rfl) ?_
  refine lw_callX (is := [.int a1, .int a2]) (rest := [.int 0, .ref qo]) (w := w) hls hc hx hb hml hown hts htn hA hz hpt hxn hf rfl (by decide) (xok_ints [a1, a2]) rfl (xt4 17 rfl rfl) (xt4 18 rfl rfl) (xt4 19 rfl rfl) hl.1 (Nat.le_of_ble_eq_true rfl) dL_state_5 (by show d + 7 ≤ d + 8; omega) (by show (d + 1) * 40 + 100 ≤ (d + 2) * 40 + 100; omega) (Nat.le_refl _) (Nat.le_refl _) (fun H' locs' w' q ce hag hpt' h1 h2 h3 => ?_)
  exact lw_caught (E := 2) (nm := "java/lang/IndexOutOfBoundsException") F hpt' hag h1 h2 h3 rfl [] ⟨0, 10, 13, 21⟩ [⟨0, 10, 17, 13⟩] rfl (fun z hz => nomatch hz) (by decide) (by decide) (xt2 115 rfl rfl) (by decide) (lv_sub hl [] rfl) (by decide) dL_state_13 dL_state_15 rfl dL_state_16
set_option maxRecDepth 100000 in
theorem wx_state_0 {l : Launch} {D : va_G} {N d x : Nat} {fs : List Value} {σ σ1 : XS} {v : Nat → Int64} {a1 a2 : Int32} (hls : l.stackTraces = false) (hc : xcallX N d 86 [.ref x, .int a1, .int a2] σ = some (0, σ1)) (hxn : x < σ.1) (hf : σ.2.2 x = .inl (9, fs)) : lwMet l D d yL_state lws_state (fun w qo => [.ref (w.1 x), .int a1, .int a2, .ref qo]) σ v 2 σ1 v (0 + (σ1.1 - σ.1 + 1)) (0 + (σ1.2.1 - σ.2.1 + 6)) := by
  refine lw_enter (by decide +kernel) rfl (fun w qo => Nat.le_of_ble_eq_true rfl) (fun p e s m args below meth c w qo cL A ls F hpt hl => ?_)
  have hl : lv_has ls 5 [(0, .ref (w.1 x)), (1, .int a1), (2, .int a2), (3, .ref qo)] := hl
  obtain ⟨hx, hb, hml, hown, hts, htn, hz, hnc, hr, hlocks, htab, hA⟩ := id F
  refine lv_aload_n hx hb dL_state_0 rfl (lv_at hl 3 rfl) ?_
  refine lv_iconst (v := 0) hx hb dL_state_1 (by decide) ?_
  refine lv_aload_n hx hb dL_state_2 rfl (lv_at hl 0 rfl) ?_
  refine lv_iload_n hx hb dL_state_3 rfl (lv_at hl 1 rfl) ?_
  refine lv_iload_n hx hb dL_state_4 rfl (lv_at hl 2 rfl) ?_
  refine lw_callX (is := [.int a1, .int a2]) (rest := [.int 0, .ref qo]) (w := w) hls hc hx hb hml hown hts htn hA hz hpt hxn hf rfl (by decide) (xok_ints [a1, a2]) rfl (xt4 17 rfl rfl) (xt4 18 rfl rfl) (xt4 19 rfl rfl) hl.1 (Nat.le_of_ble_eq_true rfl) dL_state_5 (by show d + 7 ≤ d + 8; omega) (by show (d + 1) * 40 + 100 ≤ (d + 2) * 40 + 100; omega) (Nat.le_refl _) (Nat.le_refl _) (fun H' locs' w' q ce hag hpt' h1 h2 h3 => ?_)
  exact lw_caught (E := 0) (nm := "java/lang/IllegalArgumentException") F hpt' hag h1 h2 h3 rfl [⟨0, 10, 13, 21⟩] ⟨0, 10, 17, 13⟩ [] rfl (List.forall_mem_cons.mpr ⟨⟨by decide, "java/lang/IndexOutOfBoundsException", (xt2 115 rfl rfl), by decide⟩, fun z hz => nomatch hz⟩) (by decide) (by decide) (xt2 11 rfl rfl) (by decide) (lv_sub hl [] rfl) (by decide) dL_state_17 dL_state_19 rfl dL_state_20
def lws_history : List Cond := .codeWith yL_history cL_history 5 (some .int) [(0, 10, 13, 21)] :: xT
set_option maxRecDepth 100000 in
theorem wn_history {l : Launch} {D : va_G} {N d x : Nat} {fs : List Value} {σ σ1 : XS} {v : Nat → Int64} {a1 a2 : Int32} {r : Int32} (hc : xcall N d 87 [.ref x, .int a1, .int a2] σ = some (some (.int r), σ1)) (hxn : x < σ.1) (hf : σ.2.2 x = .inl (9, fs)) : lwMet l D d yL_history lws_history (fun w qo => [.ref (w.1 x), .int a1, .int a2, .ref qo]) σ v 0 σ1 (vp_updL v 0 r.toInt64) (0 + (σ1.1 - σ.1)) (0 + (σ1.2.1 - σ.2.1)) := by
  refine lw_enter (by decide +kernel) rfl (fun w qo => Nat.le_of_ble_eq_true rfl) (fun p e s m args below meth c w qo cL A ls F hpt hl => ?_)
  have hl : lv_has ls 5 [(0, .ref (w.1 x)), (1, .int a1), (2, .int a2), (3, .ref qo)] := hl
  obtain ⟨hx, hb, hml, hown, hts, htn, hz, hnc, hr, hlocks, htab, hA⟩ := id F
  refine lv_aload_n hx hb dL_history_0 rfl (lv_at hl 3 rfl) ?_
  refine lv_iconst (v := 0) hx hb dL_history_1 (by decide) ?_
  refine lv_aload_n hx hb dL_history_2 rfl (lv_at hl 0 rfl) ?_
  refine lv_iload_n hx hb dL_history_3 rfl (lv_at hl 1 rfl) ?_
  refine lv_iload_n hx hb dL_history_4 rfl (lv_at hl 2 rfl) ?_
  refine lw_callN (is := [.int a1, .int a2]) (rest := [.int 0, .ref qo]) (w := w) hc hx hb hml hown hts htn hA hpt hxn hf rfl (by decide) (xok_ints [a1, a2]) rfl (xt4 39 rfl rfl) (xt4 40 rfl rfl) (xt4 41 rfl rfl) hl.1 (Nat.le_of_ble_eq_true rfl) dL_history_5 (by show d + 1 ≤ d + 8; omega) (by show (d + 1) * 40 ≤ (d + 2) * 40 + 100; omega) (Nat.le_refl _) (Nat.le_refl _) (fun H' locs' w' hag hpt' => ?_)
  refine lv_i2l hx hb dL_history_8 rfl ?_
  exact lw_tailL F hpt' hag dL_history_9 dL_history_10 (by decide) dL_history_17 dL_history_18
set_option maxRecDepth 100000 in
theorem wx_history_2 {l : Launch} {D : va_G} {N d x : Nat} {fs : List Value} {σ σ1 : XS} {v : Nat → Int64} {a1 a2 : Int32} (hls : l.stackTraces = false) (hc : xcallX N d 87 [.ref x, .int a1, .int a2] σ = some (2, σ1)) (hxn : x < σ.1) (hf : σ.2.2 x = .inl (9, fs)) : lwMet l D d yL_history lws_history (fun w qo => [.ref (w.1 x), .int a1, .int a2, .ref qo]) σ v 1 σ1 v (0 + (σ1.1 - σ.1 + 1)) (0 + (σ1.2.1 - σ.2.1 + 6)) := by
  refine lw_enter (by decide +kernel) rfl (fun w qo => Nat.le_of_ble_eq_true rfl) (fun p e s m args below meth c w qo cL A ls F hpt hl => ?_)
  have hl : lv_has ls 5 [(0, .ref (w.1 x)), (1, .int a1), (2, .int a2), (3, .ref qo)] := hl
  obtain ⟨hx, hb, hml, hown, hts, htn, hz, hnc, hr, hlocks, htab, hA⟩ := id F
  refine lv_aload_n hx hb dL_history_0 rfl (lv_at hl 3 rfl) ?_
  refine lv_iconst (v := 0) hx hb dL_history_1 (by decide) ?_
  refine lv_aload_n hx hb dL_history_2 rfl (lv_at hl 0 rfl) ?_
  refine lv_iload_n hx hb dL_history_3 rfl (lv_at hl 1 rfl) ?_
  refine lv_iload_n hx hb dL_history_4 rfl (lv_at hl 2 rfl) ?_
  refine lw_callX (is := [.int a1, .int a2]) (rest := [.int 0, .ref qo]) (w := w) hls hc hx hb hml hown hts htn hA hz hpt hxn hf rfl (by decide) (xok_ints [a1, a2]) rfl (xt4 39 rfl rfl) (xt4 40 rfl rfl) (xt4 41 rfl rfl) hl.1 (Nat.le_of_ble_eq_true rfl) dL_history_5 (by show d + 7 ≤ d + 8; omega) (by show (d + 1) * 40 + 100 ≤ (d + 2) * 40 + 100; omega) (Nat.le_refl _) (Nat.le_refl _) (fun H' locs' w' q ce hag hpt' h1 h2 h3 => ?_)
  exact lw_caught (E := 2) (nm := "java/lang/IndexOutOfBoundsException") F hpt' hag h1 h2 h3 rfl [] ⟨0, 10, 13, 21⟩ [] rfl (fun z hz => nomatch hz) (by decide) (by decide) (xt2 115 rfl rfl) (by decide) (lv_sub hl [] rfl) (by decide) dL_history_13 dL_history_15 rfl dL_history_16
def lws_message : List Cond := .codeWith yL_message cL_message 6 (some .int) [(0, 12, 15, 21), (0, 12, 19, 13)] :: xT
set_option maxRecDepth 100000 in
theorem wn_message {l : Launch} {D : va_G} {N d x : Nat} {fs : List Value} {σ σ1 : XS} {v : Nat → Int64} {a1 a2 a3 : Int32} {r : Int32} (hc : xcall N d 88 [.ref x, .int a1, .int a2, .int a3] σ = some (some (.int r), σ1)) (hxn : x < σ.1) (hf : σ.2.2 x = .inl (9, fs)) : lwMet l D d yL_message lws_message (fun w qo => [.ref (w.1 x), .int a1, .int a2, .int a3, .ref qo]) σ v 0 σ1 (vp_updL v 0 r.toInt64) (0 + (σ1.1 - σ.1)) (0 + (σ1.2.1 - σ.2.1)) := by
  refine lw_enter (by decide +kernel) rfl (fun w qo => Nat.le_of_ble_eq_true rfl) (fun p e s m args below meth c w qo cL A ls F hpt hl => ?_)
  have hl : lv_has ls 6 [(0, .ref (w.1 x)), (1, .int a1), (2, .int a2), (3, .int a3), (4, .ref qo)] := hl
  obtain ⟨hx, hb, hml, hown, hts, htn, hz, hnc, hr, hlocks, htab, hA⟩ := id F
  refine lv_aload hx hb dL_message_0 (lv_at hl 4 rfl) ?_
  refine lv_iconst (v := 0) hx hb dL_message_2 (by decide) ?_
  refine lv_aload_n hx hb dL_message_3 rfl (lv_at hl 0 rfl) ?_
  refine lv_iload_n hx hb dL_message_4 rfl (lv_at hl 1 rfl) ?_
  refine lv_iload_n hx hb dL_message_5 rfl (lv_at hl 2 rfl) ?_
  refine lv_iload_n hx hb dL_message_6 rfl (lv_at hl 3 rfl) ?_
  refine lw_callN (is := [.int a1, .int a2, .int a3]) (rest := [.int 0, .ref qo]) (w := w) hc hx hb hml hown hts htn hA hpt hxn hf rfl (by decide) (xok_ints [a1, a2, a3]) rfl (xt4 50 rfl rfl) (xt4 51 rfl rfl) (xt4 52 rfl rfl) hl.1 (Nat.le_of_ble_eq_true rfl) dL_message_7 (by show d + 1 ≤ d + 8; omega) (by show (d + 1) * 40 ≤ (d + 2) * 40 + 100; omega) (Nat.le_refl _) (Nat.le_refl _) (fun H' locs' w' hag hpt' => ?_)
  refine lv_i2l hx hb dL_message_10 rfl ?_
  exact lw_tailL F hpt' hag dL_message_11 dL_message_12 (by decide) dL_message_23 dL_message_24
set_option maxRecDepth 100000 in
theorem wx_message_2 {l : Launch} {D : va_G} {N d x : Nat} {fs : List Value} {σ σ1 : XS} {v : Nat → Int64} {a1 a2 a3 : Int32} (hls : l.stackTraces = false) (hc : xcallX N d 88 [.ref x, .int a1, .int a2, .int a3] σ = some (2, σ1)) (hxn : x < σ.1) (hf : σ.2.2 x = .inl (9, fs)) : lwMet l D d yL_message lws_message (fun w qo => [.ref (w.1 x), .int a1, .int a2, .int a3, .ref qo]) σ v 1 σ1 v (0 + (σ1.1 - σ.1 + 1)) (0 + (σ1.2.1 - σ.2.1 + 6)) := by
  refine lw_enter (by decide +kernel) rfl (fun w qo => Nat.le_of_ble_eq_true rfl) (fun p e s m args below meth c w qo cL A ls F hpt hl => ?_)
  have hl : lv_has ls 6 [(0, .ref (w.1 x)), (1, .int a1), (2, .int a2), (3, .int a3), (4, .ref qo)] := hl
  obtain ⟨hx, hb, hml, hown, hts, htn, hz, hnc, hr, hlocks, htab, hA⟩ := id F
  refine lv_aload hx hb dL_message_0 (lv_at hl 4 rfl) ?_
  refine lv_iconst (v := 0) hx hb dL_message_2 (by decide) ?_
  refine lv_aload_n hx hb dL_message_3 rfl (lv_at hl 0 rfl) ?_
  refine lv_iload_n hx hb dL_message_4 rfl (lv_at hl 1 rfl) ?_
  refine lv_iload_n hx hb dL_message_5 rfl (lv_at hl 2 rfl) ?_
  refine lv_iload_n hx hb dL_message_6 rfl (lv_at hl 3 rfl) ?_
  refine lw_callX (is := [.int a1, .int a2, .int a3]) (rest := [.int 0, .ref qo]) (w := w) hls hc hx hb hml hown hts htn hA hz hpt hxn hf rfl (by decide) (xok_ints [a1, a2, a3]) rfl (xt4 50 rfl rfl) (xt4 51 rfl rfl) (xt4 52 rfl rfl) hl.1 (Nat.le_of_ble_eq_true rfl) dL_message_7 (by show d + 7 ≤ d + 8; omega) (by show (d + 1) * 40 + 100 ≤ (d + 2) * 40 + 100; omega) (Nat.le_refl _) (Nat.le_refl _) (fun H' locs' w' q ce hag hpt' h1 h2 h3 => ?_)
  exact lw_caught (E := 2) (nm := "java/lang/IndexOutOfBoundsException") F hpt' hag h1 h2 h3 rfl [] ⟨0, 12, 15, 21⟩ [⟨0, 12, 19, 13⟩] rfl (fun z hz => nomatch hz) (by decide) (by decide) (xt2 115 rfl rfl) (by decide) (lv_sub hl [] rfl) (by decide) dL_message_15 dL_message_17 rfl dL_message_18
set_option maxRecDepth 100000 in
theorem wx_message_0 {l : Launch} {D : va_G} {N d x : Nat} {fs : List Value} {σ σ1 : XS} {v : Nat → Int64} {a1 a2 a3 : Int32} (hls : l.stackTraces = false) (hc : xcallX N d 88 [.ref x, .int a1, .int a2, .int a3] σ = some (0, σ1)) (hxn : x < σ.1) (hf : σ.2.2 x = .inl (9, fs)) : lwMet l D d yL_message lws_message (fun w qo => [.ref (w.1 x), .int a1, .int a2, .int a3, .ref qo]) σ v 2 σ1 v (0 + (σ1.1 - σ.1 + 1)) (0 + (σ1.2.1 - σ.2.1 + 6)) := by
  refine lw_enter (by decide +kernel) rfl (fun w qo => Nat.le_of_ble_eq_true rfl) (fun p e s m args below meth c w qo cL A ls F hpt hl => ?_)
  have hl : lv_has ls 6 [(0, .ref (w.1 x)), (1, .int a1), (2, .int a2), (3, .int a3), (4, .ref qo)] := hl
  obtain ⟨hx, hb, hml, hown, hts, htn, hz, hnc, hr, hlocks, htab, hA⟩ := id F
  refine lv_aload hx hb dL_message_0 (lv_at hl 4 rfl) ?_
  refine lv_iconst (v := 0) hx hb dL_message_2 (by decide) ?_
  refine lv_aload_n hx hb dL_message_3 rfl (lv_at hl 0 rfl) ?_
  refine lv_iload_n hx hb dL_message_4 rfl (lv_at hl 1 rfl) ?_
  refine lv_iload_n hx hb dL_message_5 rfl (lv_at hl 2 rfl) ?_
  refine lv_iload_n hx hb dL_message_6 rfl (lv_at hl 3 rfl) ?_
  refine lw_callX (is := [.int a1, .int a2, .int a3]) (rest := [.int 0, .ref qo]) (w := w) hls hc hx hb hml hown hts htn hA hz hpt hxn hf rfl (by decide) (xok_ints [a1, a2, a3]) rfl (xt4 50 rfl rfl) (xt4 51 rfl rfl) (xt4 52 rfl rfl) hl.1 (Nat.le_of_ble_eq_true rfl) dL_message_7 (by show d + 7 ≤ d + 8; omega) (by show (d + 1) * 40 + 100 ≤ (d + 2) * 40 + 100; omega) (Nat.le_refl _) (Nat.le_refl _) (fun H' locs' w' q ce hag hpt' h1 h2 h3 => ?_)
  exact lw_caught (E := 0) (nm := "java/lang/IllegalArgumentException") F hpt' hag h1 h2 h3 rfl [⟨0, 12, 15, 21⟩] ⟨0, 12, 19, 13⟩ [] rfl (List.forall_mem_cons.mpr ⟨⟨by decide, "java/lang/IndexOutOfBoundsException", (xt2 115 rfl rfl), by decide⟩, fun z hz => nomatch hz⟩) (by decide) (by decide) (xt2 11 rfl rfl) (by decide) (lv_sub hl [] rfl) (by decide) dL_message_19 dL_message_21 rfl dL_message_22
def lws_row : List Cond := .codeWith yL_row cL_row 5 (some .int) [(0, 10, 13, 13)] :: xT
set_option maxRecDepth 100000 in
theorem wn_row {l : Launch} {D : va_G} {N d x : Nat} {fs : List Value} {σ σ1 : XS} {v : Nat → Int64} {a1 a2 : Int32} {r : Int32} (hc : xcall N d 89 [.ref x, .int a1, .int a2] σ = some (some (.int r), σ1)) (hxn : x < σ.1) (hf : σ.2.2 x = .inl (9, fs)) : lwMet l D d yL_row lws_row (fun w qo => [.ref (w.1 x), .int a1, .int a2, .ref qo]) σ v 0 σ1 (vp_updL v 0 r.toInt64) (0 + (σ1.1 - σ.1)) (0 + (σ1.2.1 - σ.2.1)) := by
  refine lw_enter (by decide +kernel) rfl (fun w qo => Nat.le_of_ble_eq_true rfl) (fun p e s m args below meth c w qo cL A ls F hpt hl => ?_)
  have hl : lv_has ls 5 [(0, .ref (w.1 x)), (1, .int a1), (2, .int a2), (3, .ref qo)] := hl
  obtain ⟨hx, hb, hml, hown, hts, htn, hz, hnc, hr, hlocks, htab, hA⟩ := id F
  refine lv_aload_n hx hb dL_row_0 rfl (lv_at hl 3 rfl) ?_
  refine lv_iconst (v := 0) hx hb dL_row_1 (by decide) ?_
  refine lv_aload_n hx hb dL_row_2 rfl (lv_at hl 0 rfl) ?_
  refine lv_iload_n hx hb dL_row_3 rfl (lv_at hl 1 rfl) ?_
  refine lv_iload_n hx hb dL_row_4 rfl (lv_at hl 2 rfl) ?_
  refine lw_callN (is := [.int a1, .int a2]) (rest := [.int 0, .ref qo]) (w := w) hc hx hb hml hown hts htn hA hpt hxn hf rfl (by decide) (xok_ints [a1, a2]) rfl (xt4 59 rfl rfl) (xt4 60 rfl rfl) (xt4 61 rfl rfl) hl.1 (Nat.le_of_ble_eq_true rfl) dL_row_5 (by show d + 1 ≤ d + 8; omega) (by show (d + 1) * 40 ≤ (d + 2) * 40 + 100; omega) (Nat.le_refl _) (Nat.le_refl _) (fun H' locs' w' hag hpt' => ?_)
  refine lv_i2l hx hb dL_row_8 rfl ?_
  exact lw_tailL F hpt' hag dL_row_9 dL_row_10 (by decide) dL_row_17 dL_row_18
set_option maxRecDepth 100000 in
theorem wx_row_0 {l : Launch} {D : va_G} {N d x : Nat} {fs : List Value} {σ σ1 : XS} {v : Nat → Int64} {a1 a2 : Int32} (hls : l.stackTraces = false) (hc : xcallX N d 89 [.ref x, .int a1, .int a2] σ = some (0, σ1)) (hxn : x < σ.1) (hf : σ.2.2 x = .inl (9, fs)) : lwMet l D d yL_row lws_row (fun w qo => [.ref (w.1 x), .int a1, .int a2, .ref qo]) σ v 1 σ1 v (0 + (σ1.1 - σ.1 + 1)) (0 + (σ1.2.1 - σ.2.1 + 6)) := by
  refine lw_enter (by decide +kernel) rfl (fun w qo => Nat.le_of_ble_eq_true rfl) (fun p e s m args below meth c w qo cL A ls F hpt hl => ?_)
  have hl : lv_has ls 5 [(0, .ref (w.1 x)), (1, .int a1), (2, .int a2), (3, .ref qo)] := hl
  obtain ⟨hx, hb, hml, hown, hts, htn, hz, hnc, hr, hlocks, htab, hA⟩ := id F
  refine lv_aload_n hx hb dL_row_0 rfl (lv_at hl 3 rfl) ?_
  refine lv_iconst (v := 0) hx hb dL_row_1 (by decide) ?_
  refine lv_aload_n hx hb dL_row_2 rfl (lv_at hl 0 rfl) ?_
  refine lv_iload_n hx hb dL_row_3 rfl (lv_at hl 1 rfl) ?_
  refine lv_iload_n hx hb dL_row_4 rfl (lv_at hl 2 rfl) ?_
  refine lw_callX (is := [.int a1, .int a2]) (rest := [.int 0, .ref qo]) (w := w) hls hc hx hb hml hown hts htn hA hz hpt hxn hf rfl (by decide) (xok_ints [a1, a2]) rfl (xt4 59 rfl rfl) (xt4 60 rfl rfl) (xt4 61 rfl rfl) hl.1 (Nat.le_of_ble_eq_true rfl) dL_row_5 (by show d + 7 ≤ d + 8; omega) (by show (d + 1) * 40 + 100 ≤ (d + 2) * 40 + 100; omega) (Nat.le_refl _) (Nat.le_refl _) (fun H' locs' w' q ce hag hpt' h1 h2 h3 => ?_)
  exact lw_caught (E := 0) (nm := "java/lang/IllegalArgumentException") F hpt' hag h1 h2 h3 rfl [] ⟨0, 10, 13, 13⟩ [] rfl (fun z hz => nomatch hz) (by decide) (by decide) (xt2 11 rfl rfl) (by decide) (lv_sub hl [] rfl) (by decide) dL_row_13 dL_row_15 rfl dL_row_16
def lws_told : List Cond := .codeWith yL_told cL_told 5 (some .int) [(0, 10, 13, 21), (0, 10, 17, 13)] :: xT
set_option maxRecDepth 100000 in
theorem wn_told {l : Launch} {D : va_G} {N d x : Nat} {fs : List Value} {σ σ1 : XS} {v : Nat → Int64} {a1 a2 : Int32} {r : Int32} (hc : xcall N d 90 [.ref x, .int a1, .int a2] σ = some (some (.int r), σ1)) (hxn : x < σ.1) (hf : σ.2.2 x = .inl (9, fs)) : lwMet l D d yL_told lws_told (fun w qo => [.ref (w.1 x), .int a1, .int a2, .ref qo]) σ v 0 σ1 (vp_updL v 0 r.toInt64) (0 + (σ1.1 - σ.1)) (0 + (σ1.2.1 - σ.2.1)) := by
  refine lw_enter (by decide +kernel) rfl (fun w qo => Nat.le_of_ble_eq_true rfl) (fun p e s m args below meth c w qo cL A ls F hpt hl => ?_)
  have hl : lv_has ls 5 [(0, .ref (w.1 x)), (1, .int a1), (2, .int a2), (3, .ref qo)] := hl
  obtain ⟨hx, hb, hml, hown, hts, htn, hz, hnc, hr, hlocks, htab, hA⟩ := id F
  refine lv_aload_n hx hb dL_told_0 rfl (lv_at hl 3 rfl) ?_
  refine lv_iconst (v := 0) hx hb dL_told_1 (by decide) ?_
  refine lv_aload_n hx hb dL_told_2 rfl (lv_at hl 0 rfl) ?_
  refine lv_iload_n hx hb dL_told_3 rfl (lv_at hl 1 rfl) ?_
  refine lv_iload_n hx hb dL_told_4 rfl (lv_at hl 2 rfl) ?_
  refine lw_callN (is := [.int a1, .int a2]) (rest := [.int 0, .ref qo]) (w := w) hc hx hb hml hown hts htn hA hpt hxn hf rfl (by decide) (xok_ints [a1, a2]) rfl (xt4 67 rfl rfl) (xt4 68 rfl rfl) (xt4 69 rfl rfl) hl.1 (Nat.le_of_ble_eq_true rfl) dL_told_5 (by show d + 1 ≤ d + 8; omega) (by show (d + 1) * 40 ≤ (d + 2) * 40 + 100; omega) (Nat.le_refl _) (Nat.le_refl _) (fun H' locs' w' hag hpt' => ?_)
  refine lv_i2l hx hb dL_told_8 rfl ?_
  exact lw_tailL F hpt' hag dL_told_9 dL_told_10 (by decide) dL_told_21 dL_told_22
set_option maxRecDepth 100000 in
theorem wx_told_2 {l : Launch} {D : va_G} {N d x : Nat} {fs : List Value} {σ σ1 : XS} {v : Nat → Int64} {a1 a2 : Int32} (hls : l.stackTraces = false) (hc : xcallX N d 90 [.ref x, .int a1, .int a2] σ = some (2, σ1)) (hxn : x < σ.1) (hf : σ.2.2 x = .inl (9, fs)) : lwMet l D d yL_told lws_told (fun w qo => [.ref (w.1 x), .int a1, .int a2, .ref qo]) σ v 1 σ1 v (0 + (σ1.1 - σ.1 + 1)) (0 + (σ1.2.1 - σ.2.1 + 6)) := by
  refine lw_enter (by decide +kernel) rfl (fun w qo => Nat.le_of_ble_eq_true rfl) (fun p e s m args below meth c w qo cL A ls F hpt hl => ?_)
  have hl : lv_has ls 5 [(0, .ref (w.1 x)), (1, .int a1), (2, .int a2), (3, .ref qo)] := hl
  obtain ⟨hx, hb, hml, hown, hts, htn, hz, hnc, hr, hlocks, htab, hA⟩ := id F
  refine lv_aload_n hx hb dL_told_0 rfl (lv_at hl 3 rfl) ?_
  refine lv_iconst (v := 0) hx hb dL_told_1 (by decide) ?_
  refine lv_aload_n hx hb dL_told_2 rfl (lv_at hl 0 rfl) ?_
  refine lv_iload_n hx hb dL_told_3 rfl (lv_at hl 1 rfl) ?_
  refine lv_iload_n hx hb dL_told_4 rfl (lv_at hl 2 rfl) ?_
  refine lw_callX (is := [.int a1, .int a2]) (rest := [.int 0, .ref qo]) (w := w) hls hc hx hb hml hown hts htn hA hz hpt hxn hf rfl (by decide) (xok_ints [a1, a2]) rfl (xt4 67 rfl rfl) (xt4 68 rfl rfl) (xt4 69 rfl rfl) hl.1 (Nat.le_of_ble_eq_true rfl) dL_told_5 (by show d + 7 ≤ d + 8; omega) (by show (d + 1) * 40 + 100 ≤ (d + 2) * 40 + 100; omega) (Nat.le_refl _) (Nat.le_refl _) (fun H' locs' w' q ce hag hpt' h1 h2 h3 => ?_)
  exact lw_caught (E := 2) (nm := "java/lang/IndexOutOfBoundsException") F hpt' hag h1 h2 h3 rfl [] ⟨0, 10, 13, 21⟩ [⟨0, 10, 17, 13⟩] rfl (fun z hz => nomatch hz) (by decide) (by decide) (xt2 115 rfl rfl) (by decide) (lv_sub hl [] rfl) (by decide) dL_told_13 dL_told_15 rfl dL_told_16
set_option maxRecDepth 100000 in
theorem wx_told_0 {l : Launch} {D : va_G} {N d x : Nat} {fs : List Value} {σ σ1 : XS} {v : Nat → Int64} {a1 a2 : Int32} (hls : l.stackTraces = false) (hc : xcallX N d 90 [.ref x, .int a1, .int a2] σ = some (0, σ1)) (hxn : x < σ.1) (hf : σ.2.2 x = .inl (9, fs)) : lwMet l D d yL_told lws_told (fun w qo => [.ref (w.1 x), .int a1, .int a2, .ref qo]) σ v 2 σ1 v (0 + (σ1.1 - σ.1 + 1)) (0 + (σ1.2.1 - σ.2.1 + 6)) := by
  refine lw_enter (by decide +kernel) rfl (fun w qo => Nat.le_of_ble_eq_true rfl) (fun p e s m args below meth c w qo cL A ls F hpt hl => ?_)
  have hl : lv_has ls 5 [(0, .ref (w.1 x)), (1, .int a1), (2, .int a2), (3, .ref qo)] := hl
  obtain ⟨hx, hb, hml, hown, hts, htn, hz, hnc, hr, hlocks, htab, hA⟩ := id F
  refine lv_aload_n hx hb dL_told_0 rfl (lv_at hl 3 rfl) ?_
  refine lv_iconst (v := 0) hx hb dL_told_1 (by decide) ?_
  refine lv_aload_n hx hb dL_told_2 rfl (lv_at hl 0 rfl) ?_
  refine lv_iload_n hx hb dL_told_3 rfl (lv_at hl 1 rfl) ?_
  refine lv_iload_n hx hb dL_told_4 rfl (lv_at hl 2 rfl) ?_
  refine lw_callX (is := [.int a1, .int a2]) (rest := [.int 0, .ref qo]) (w := w) hls hc hx hb hml hown hts htn hA hz hpt hxn hf rfl (by decide) (xok_ints [a1, a2]) rfl (xt4 67 rfl rfl) (xt4 68 rfl rfl) (xt4 69 rfl rfl) hl.1 (Nat.le_of_ble_eq_true rfl) dL_told_5 (by show d + 7 ≤ d + 8; omega) (by show (d + 1) * 40 + 100 ≤ (d + 2) * 40 + 100; omega) (Nat.le_refl _) (Nat.le_refl _) (fun H' locs' w' q ce hag hpt' h1 h2 h3 => ?_)
  exact lw_caught (E := 0) (nm := "java/lang/IllegalArgumentException") F hpt' hag h1 h2 h3 rfl [⟨0, 10, 13, 21⟩] ⟨0, 10, 17, 13⟩ [] rfl (List.forall_mem_cons.mpr ⟨⟨by decide, "java/lang/IndexOutOfBoundsException", (xt2 115 rfl rfl), by decide⟩, fun z hz => nomatch hz⟩) (by decide) (by decide) (xt2 11 rfl rfl) (by decide) (lv_sub hl [] rfl) (by decide) dL_told_17 dL_told_19 rfl dL_told_20
def lws_result : List Cond := .codeWith yL_result cL_result 5 (some .int) [(0, 10, 13, 21)] :: xT
set_option maxRecDepth 100000 in
theorem wn_result {l : Launch} {D : va_G} {N d x : Nat} {fs : List Value} {σ σ1 : XS} {v : Nat → Int64} {a1 a2 : Int32} {r : Int32} (hc : xcall N d 91 [.ref x, .int a1, .int a2] σ = some (some (.int r), σ1)) (hxn : x < σ.1) (hf : σ.2.2 x = .inl (9, fs)) : lwMet l D d yL_result lws_result (fun w qo => [.ref (w.1 x), .int a1, .int a2, .ref qo]) σ v 0 σ1 (vp_updL v 0 r.toInt64) (0 + (σ1.1 - σ.1)) (0 + (σ1.2.1 - σ.2.1)) := by
  refine lw_enter (by decide +kernel) rfl (fun w qo => Nat.le_of_ble_eq_true rfl) (fun p e s m args below meth c w qo cL A ls F hpt hl => ?_)
  have hl : lv_has ls 5 [(0, .ref (w.1 x)), (1, .int a1), (2, .int a2), (3, .ref qo)] := hl
  obtain ⟨hx, hb, hml, hown, hts, htn, hz, hnc, hr, hlocks, htab, hA⟩ := id F
  refine lv_aload_n hx hb dL_result_0 rfl (lv_at hl 3 rfl) ?_
  refine lv_iconst (v := 0) hx hb dL_result_1 (by decide) ?_
  refine lv_aload_n hx hb dL_result_2 rfl (lv_at hl 0 rfl) ?_
  refine lv_iload_n hx hb dL_result_3 rfl (lv_at hl 1 rfl) ?_
  refine lv_iload_n hx hb dL_result_4 rfl (lv_at hl 2 rfl) ?_
  refine lw_callN (is := [.int a1, .int a2]) (rest := [.int 0, .ref qo]) (w := w) hc hx hb hml hown hts htn hA hpt hxn hf rfl (by decide) (xok_ints [a1, a2]) rfl (xt4 82 rfl rfl) (xt4 83 rfl rfl) (xt4 84 rfl rfl) hl.1 (Nat.le_of_ble_eq_true rfl) dL_result_5 (by show d + 1 ≤ d + 8; omega) (by show (d + 1) * 40 ≤ (d + 2) * 40 + 100; omega) (Nat.le_refl _) (Nat.le_refl _) (fun H' locs' w' hag hpt' => ?_)
  refine lv_i2l hx hb dL_result_8 rfl ?_
  exact lw_tailL F hpt' hag dL_result_9 dL_result_10 (by decide) dL_result_17 dL_result_18
set_option maxRecDepth 100000 in
theorem wx_result_2 {l : Launch} {D : va_G} {N d x : Nat} {fs : List Value} {σ σ1 : XS} {v : Nat → Int64} {a1 a2 : Int32} (hls : l.stackTraces = false) (hc : xcallX N d 91 [.ref x, .int a1, .int a2] σ = some (2, σ1)) (hxn : x < σ.1) (hf : σ.2.2 x = .inl (9, fs)) : lwMet l D d yL_result lws_result (fun w qo => [.ref (w.1 x), .int a1, .int a2, .ref qo]) σ v 1 σ1 v (0 + (σ1.1 - σ.1 + 1)) (0 + (σ1.2.1 - σ.2.1 + 6)) := by
  refine lw_enter (by decide +kernel) rfl (fun w qo => Nat.le_of_ble_eq_true rfl) (fun p e s m args below meth c w qo cL A ls F hpt hl => ?_)
  have hl : lv_has ls 5 [(0, .ref (w.1 x)), (1, .int a1), (2, .int a2), (3, .ref qo)] := hl
  obtain ⟨hx, hb, hml, hown, hts, htn, hz, hnc, hr, hlocks, htab, hA⟩ := id F
  refine lv_aload_n hx hb dL_result_0 rfl (lv_at hl 3 rfl) ?_
  refine lv_iconst (v := 0) hx hb dL_result_1 (by decide) ?_
  refine lv_aload_n hx hb dL_result_2 rfl (lv_at hl 0 rfl) ?_
  refine lv_iload_n hx hb dL_result_3 rfl (lv_at hl 1 rfl) ?_
  refine lv_iload_n hx hb dL_result_4 rfl (lv_at hl 2 rfl) ?_
  refine lw_callX (is := [.int a1, .int a2]) (rest := [.int 0, .ref qo]) (w := w) hls hc hx hb hml hown hts htn hA hz hpt hxn hf rfl (by decide) (xok_ints [a1, a2]) rfl (xt4 82 rfl rfl) (xt4 83 rfl rfl) (xt4 84 rfl rfl) hl.1 (Nat.le_of_ble_eq_true rfl) dL_result_5 (by show d + 7 ≤ d + 8; omega) (by show (d + 1) * 40 + 100 ≤ (d + 2) * 40 + 100; omega) (Nat.le_refl _) (Nat.le_refl _) (fun H' locs' w' q ce hag hpt' h1 h2 h3 => ?_)
  exact lw_caught (E := 2) (nm := "java/lang/IndexOutOfBoundsException") F hpt' hag h1 h2 h3 rfl [] ⟨0, 10, 13, 21⟩ [] rfl (fun z hz => nomatch hz) (by decide) (by decide) (xt2 115 rfl rfl) (by decide) (lv_sub hl [] rfl) (by decide) dL_result_13 dL_result_15 rfl dL_result_16
