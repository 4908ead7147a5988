/-! what hangs on the log alone; folds; marks; the base of a row -/
/-- the same log -/
def zSm (A M : ZM) : Prop := M 10 = A 10 ∧ (∀ x : Int, M (44 + 2 * (x % 3)) = A (44 + 2 * (x % 3))) ∧ (∀ x : Int, M (45 + 2 * (x % 3)) = A (45 + 2 * (x % 3)))
theorem zSm_of {A M : ZM} (h10 : M 10 = A 10) (hr : ∀ c, 44 ≤ c ∧ c < 50 → M c = A c) : zSm A M := ⟨h10, fun x => hr _ (by omega), fun x => hr _ (by omega)⟩
section ZSM
variable {A M C C' : ZM} (h : zSm A M)
theorem zSm_4 (h : zSm A M) {s : Int} (hs : 0 ≤ s ∧ s < 3) : M (44 + 2 * s) = A (44 + 2 * s) := by
  have := h.2.1 s
  rw [show s % 3 = s by omega] at this
  exact this
theorem zSm_5 (h : zSm A M) {s : Int} (hs : 0 ≤ s ∧ s < 3) : M (45 + 2 * s) = A (45 + 2 * s) := by
  have := h.2.2 s
  rw [show s % 3 = s by omega] at this
  exact this
theorem zHL_c (h : zSm A M) {s w : Int} : zHL M (s % 3) w = zHL A (s % 3) w := by funext i; simp only [zHL, h.2.2]
theorem zVN_c (h : zSm A M) (hc : C' 119 = C 119) {s k : Int} : zVN M C' (s % 3) k = zVN A C (s % 3) k := by
  simp only [zVN, zIC, zOf, zLf, zHL_c h, h.2.1, h.2.2, hc]
theorem zVP_c (h : zSm A M) {s k : Int} : zVP M (s % 3) k = zVP A (s % 3) k := by
  simp only [zVP, zLf, zHL_c h, h.1, h.2.2]
theorem zVC_c (h : zSm A M) (hc : C' 119 = C 119) {s k : Int} : zVC M C' (s % 3) k = zVC A C (s % 3) k := by
  simp only [zVC, zLf, zHL_c h, h.1, h.2.1, h.2.2, hc]
theorem zMr_c (h : zSm A M) {s k : Int} : zMr M (s % 3) k = zMr A (s % 3) k := by
  simp only [zMr, h.2.2]
theorem zOpn_c (h : zSm A M) {w : Int} : zOpn M w = zOpn A w := by
  simp only [zOpn, h.1, h.2.1, h.2.2]
theorem zLI_c (h : zSm A M) (hc : C' 119 = C 119) (hL : zLI A C) : zLI M C' := by
  obtain ⟨l1, l2, l3, l4⟩ := hL
  refine ⟨fun s hs => ?_, fun s k hs hk => ?_, ?_, fun w hw => ?_⟩
  · rw [zSm_4 h hs]; exact l1 s hs
  · have e : s % 3 = s := by omega
    rw [zSm_4 h hs] at hk
    have := l2 s k hs hk
    rw [← e] at this ⊢
    rw [zVN_c h hc, zVP_c h, zVC_c h hc, zMr_c h, h.2.2]
    exact this
  · rw [h.1]; exact l3
  · rw [zOpn_c h]; exact l4 w hw
theorem zLog_c (h : zSm A M) (hq : A 1 6 ≤ M 1 6) (hc : C' 119 = C 119) (hc2 : C' 107 15 = C 107 15) (hL : zLog A C) : zLog M C' := by
  obtain ⟨l1, l2, l3, l4, l5, l6⟩ := hL
  refine ⟨zLI_c h hc l1, fun s k hs hk => ?_, ?_, fun s w hs hw => ?_, fun s k hs hk hk0 => ?_, fun s k hs hk => ?_⟩
  · rw [zSm_4 h hs] at hk
    rw [hc, hc2]; exact l2 s k hs hk
  · have e0 := h.2.1 0
    have e1 := h.2.1 1
    have e2 := h.2.1 2
    simp only [Int.reduceMod, Int.reduceMul, Int.reduceAdd] at e0 e1 e2
    rw [hc2, e0, e1, e2]; exact l3
  · have e : s % 3 = s := by omega
    have := l4 s w hs hw
    rw [← e] at this ⊢
    rw [zHL_c h, h.2.1]
    exact this
  · rw [zSm_4 h hs] at hk
    rw [zSm_5 h hs] at hk0 ⊢
    have := l5 s k hs hk hk0
    omega
  · rw [zSm_4 h hs] at hk
    rw [zSm_5 h hs]
    exact l6 s k hs hk
theorem zHO_c (h : zSm A M) {s u : Int} : zHO M (s % 3) u = zHO A (s % 3) u := by funext i; simp only [zHO, h.1, h.2.2]
theorem zTel_c (h : zSm A M) {s u n : Int} : zTel M (s % 3) u n = zTel A (s % 3) u n := by funext i; simp only [zTel, h.2.2]
theorem zoa_c (h : zSm A M) {w : Int} : zoa M w = zoa A w := by simp only [zoa, h.1, h.2.2]
theorem zob_c (h : zSm A M) {w : Int} : zob M w = zob A w := by simp only [zob, h.1, h.2.2]
theorem zHb_c (h : zSm A M) {w : Int} : zHb M w = zHb A w := by
  funext u
  unfold zHb
  rw [zoa_c h, zob_c h]
  simp only [zHO_c h, h.2.1]
theorem zBF_c (h : zSm A M) {w : Int} : zBF M w = zBF A w := by unfold zBF; rw [zHb_c h]
theorem zPC_c (h : zSm A M) {s v n : Int} : zPC M (s % 3) v n = zPC A (s % 3) v n := by simp only [zPC, h.2.2]
theorem zNs_c (h : zSm A M) {s w : Int} : zNs M (s % 3) w = zNs A (s % 3) w := by simp only [zNs, h.2.1, h.2.2]
theorem zNP_c (h : zSm A M) {w : Int} : zNP M w = zNP A w := by
  have e0 := zNs_c h (s := 0) (w := w)
  have e1 := zNs_c h (s := 1) (w := w)
  have e2 := zNs_c h (s := 2) (w := w)
  simp only [Int.reduceMod] at e0 e1 e2
  unfold zNP
  rw [e0, e1, e2]
end ZSM
theorem zfi_L {α : Type} {f : Int → α → α} : ∀ (n : Nat) (k l : Int) (a : α), (l + 1 - k).toNat = n → k ≤ l + 1 → zfi f k (l + 1) a = f (l + 1) (zfi f k l a)
  | 0, k, l, a, e, h => by
    have e2 : k = l + 1 := by omega
    rw [zfi_S (by omega), zfi_N (k := k + 1) (by omega), zfi_N (l := l) (by omega), e2]
  | n + 1, k, l, a, e, h => by
    rw [zfi_S (k := k) (l := l + 1) (by omega), zfi_S (k := k) (l := l) (by omega)]
    exact zfi_L n (k + 1) l _ (by omega) (by omega)
theorem zfi_rel {α β : Type} {f : Int → α → α} {g : Int → β → β} {R : α → β → Prop} : ∀ (n : Nat) (k l : Int) (a : α) (b : β), (l + 1 - k).toNat = n → (∀ i a b, k ≤ i ∧ i ≤ l → R a b → R (f i a) (g i b)) → R a b → R (zfi f k l a) (zfi g k l b)
  | 0, k, l, a, b, e, h, hr => by rw [zfi_N (by omega), zfi_N (by omega)]; exact hr
  | n + 1, k, l, a, b, e, h, hr => by
    rw [zfi_S (f := f) (by omega), zfi_S (f := g) (by omega)]
    exact zfi_rel n (k + 1) l _ _ (by omega) (fun i a b hi => h i a b (by omega)) (h k a b (by omega) hr)
theorem zfi_kp {α : Type} {f : Int → α → α} {P : α → Prop} (k l : Int) (a : α) (h : ∀ i a, k ≤ i ∧ i ≤ l → P a → P (f i a)) (ha : P a) : P (zfi f k l a) :=
  zfi_rel (β := Unit) (g := fun _ _ => ()) (R := fun a _ => P a) _ k l a () rfl (fun i a _ hi ha => h i a hi ha) ha
/-- a row made longer by what was told -/
def zTf (A : ZM) (i a j b u k : Int) (x : (Int → Int) × Int) : (Int → Int) × Int := if zAc A i a j b u k then (zst x.1 x.2 (A (45 + 2 * (u % 3)) (k * 5 + 2)), x.2 + 1) else x
def zTw (A : ZM) (w u : Int) (x : (Int → Int) × Int) : (Int → Int) × Int := zfi (zTf A (zoa A w % 3) (zoa A w / 3) (zob A w % 3) (zob A w / 3) u) 1 (A (44 + 2 * (u % 3)) 1) x
/-- two rows alike as far as they go -/
def zpe (x y : (Int → Int) × Int) : Prop := x.2 = y.2 ∧ 0 ≤ x.2 ∧ ∀ j, 0 ≤ j ∧ j < x.2 → x.1 j = y.1 j
theorem zTf_c {A M : ZM} (h : zSm A M) {i a j b u : Int} : zTf M (i % 3) a (j % 3) b u = zTf A (i % 3) a (j % 3) b u := by
  funext k x
  unfold zTf zAc
  rw [zTel_c h, zTel_c h, h.2.1, h.2.1, h.2.2]
theorem zTw_c {A M : ZM} (h : zSm A M) {w u : Int} : zTw M w u = zTw A w u := by
  funext x
  unfold zTw
  rw [zoa_c h, zob_c h, zTf_c h, h.2.1]
theorem zTf_ext {A : ZM} {i a j b u k : Int} {x y : (Int → Int) × Int} (h : zpe x y) : zpe (zTf A i a j b u k x) (zTf A i a j b u k y) := by
  obtain ⟨h1, h2, h3⟩ := h
  unfold zTf
  split
  · refine ⟨?_, ?_, fun q hq => ?_⟩
    · show x.2 + 1 = y.2 + 1; omega
    · show 0 ≤ x.2 + 1; omega
    · have hq2 : q < x.2 + 1 := hq.2
      show (if q = x.2 then _ else x.1 q) = (if q = y.2 then _ else y.1 q)
      rw [← h1]
      split
      · rfl
      · exact h3 q ⟨hq.1, by omega⟩
  · exact ⟨h1, h2, h3⟩
theorem zTw_ext {A : ZM} {w u : Int} {x y : (Int → Int) × Int} (h : zpe x y) : zpe (zTw A w u x) (zTw A w u y) :=
  zfi_rel (R := zpe) _ _ _ _ _ rfl (fun _ _ _ _ hr => zTf_ext hr) h
theorem zPC_S {A : ZM} {s v : Int} {m : Nat} : zPC A s v ((m : Int) + 1) = zPC A s v m + (if A (45 + 2 * s) (((m : Int) + 1) * 5 + 0) = 0 ∧ A (45 + 2 * s) (((m : Int) + 1) * 5 + 1) = v then 1 else 0) := by
  unfold zPC
  rw [show ((m : Int) + 1).toNat = m + 1 by omega, show ((m : Int)).toNat = m by omega]
  show zcn _ m + _ = _
  simp only [decide_eq_true_eq]
theorem zTf_bd {A : ZM} {i a j b u : Int} {x : (Int → Int) × Int} : ∀ m : Nat, x.2 ≤ (zfi (zTf A i a j b u) 1 (m : Int) x).2 ∧ (zfi (zTf A i a j b u) 1 (m : Int) x).2 ≤ x.2 + zPC A (u % 3) u m
  | 0 => by
    rw [zfi_N (by omega)]
    have : zPC A (u % 3) u ((0 : Nat) : Int) = 0 := rfl
    omega
  | m + 1 => by
    have ih := zTf_bd (A := A) (i := i) (a := a) (j := j) (b := b) (u := u) (x := x) m
    rw [show ((m + 1 : Nat) : Int) = (m : Int) + 1 by omega, zfi_L _ 1 m x rfl (by omega), zPC_S]
    generalize zfi (zTf A i a j b u) 1 (m : Int) x = y at *
    unfold zTf
    split
    · rename_i hc
      rw [if_pos ⟨hc.1, hc.2.1⟩]
      show x.2 ≤ y.2 + 1 ∧ y.2 + 1 ≤ _
      omega
    · split <;> omega
theorem zTw_bd {A : ZM} {w u : Int} {x : (Int → Int) × Int} (hc : 0 ≤ A (44 + 2 * (u % 3)) 1) : x.2 ≤ (zTw A w u x).2 ∧ (zTw A w u x).2 ≤ x.2 + zPC A (u % 3) u (A (44 + 2 * (u % 3)) 1) := by
  have := zTf_bd (A := A) (i := zoa A w % 3) (a := zoa A w / 3) (j := zob A w % 3) (b := zob A w / 3) (u := u) (x := x) (A (44 + 2 * (u % 3)) 1).toNat
  rw [Int.toNat_of_nonneg hc] at this
  exact this
theorem zTw_en {A : ZM} {w u r : Int} {x : (Int → Int) × Int} (hq : ∀ k, 1 ≤ k ∧ k ≤ A (44 + 2 * (u % 3)) 1 → A (45 + 2 * (u % 3)) (k * 5 + 0) = 0 → 0 ≤ A (45 + 2 * (u % 3)) (k * 5 + 2) ∧ A (45 + 2 * (u % 3)) (k * 5 + 2) < r) (hx : ∀ j, 0 ≤ j ∧ j < x.2 → 0 ≤ x.1 j ∧ x.1 j < r) : ∀ j, 0 ≤ j ∧ j < (zTw A w u x).2 → 0 ≤ (zTw A w u x).1 j ∧ (zTw A w u x).1 j < r :=
  zfi_kp (P := fun x : (Int → Int) × Int => ∀ j, 0 ≤ j ∧ j < x.2 → 0 ≤ x.1 j ∧ x.1 j < r) _ _ _ (fun k y hk hy => by
    unfold zTf
    split
    · rename_i hc
      intro j hj
      have hj2 : j < y.2 + 1 := hj.2
      show 0 ≤ (if j = y.2 then _ else y.1 j) ∧ (if j = y.2 then _ else y.1 j) < r
      split
      · exact hq k hk hc.1
      · exact hy j ⟨hj.1, by omega⟩
    · exact hy) hx
/-- marked by a message -/
def zMk (M : ZM) (s v k x : Int) : Prop := M (45 + 2 * s) (k * 5 + 1) = v ∧ M (45 + 2 * s) (k * 5 + 0) ≠ 2 ∧ M (45 + 2 * s) (k * 5 + 4) = 0 ∧ (if M (45 + 2 * s) (k * 5 + 0) = 1 then M (45 + 2 * s) (k * 5 + 2) = x else k = x)
theorem zmk1 {M : ZM} {i x : Int} : ¬ zup M 43 i 1 43 x = 0 ↔ ¬ M 43 x = 0 ∨ i = x := by
  by_cases h : x = i
  · rw [zup_eq ⟨rfl, h⟩]; exact ⟨fun _ => .inr h.symm, fun _ => by decide⟩
  · rw [zup_ne (fun q => h q.2)]; exact ⟨.inl, fun q => q.elim id (fun e => absurd e.symm h)⟩
theorem zmkf_43 {s v k x : Int} {M : ZM} (hx : 0 ≤ x ∧ x < 101) : ¬ zmkf s v k M 43 x = 0 ↔ ¬ M 43 x = 0 ∨ zMk M s v k x := by
  unfold zmkf zMk
  by_cases h1 : M (45 + 2 * s) (k * 5 + 1) = v ∧ M (45 + 2 * s) (k * 5 + 0) ≠ 2 ∧ M (45 + 2 * s) (k * 5 + 4) = 0
  · rw [if_pos h1]
    by_cases h2 : M (45 + 2 * s) (k * 5 + 0) = 1
    · rw [if_pos h2, if_pos h2]
      by_cases h3 : 0 ≤ M (45 + 2 * s) (k * 5 + 2) ∧ M (45 + 2 * s) (k * 5 + 2) < 101
      · rw [if_pos h3, zmk1]
        exact ⟨fun h => h.imp id (fun q => ⟨h1.1, h1.2.1, h1.2.2, q⟩), fun h => h.imp id (fun q => q.2.2.2)⟩
      · rw [if_neg h3]
        exact ⟨.inl, fun h => h.elim id (fun q => absurd (by rw [q.2.2.2]; exact hx) h3)⟩
    · rw [if_neg h2, if_neg h2, zmk1]
      exact ⟨fun h => h.imp id (fun q => ⟨h1.1, h1.2.1, h1.2.2, q⟩), fun h => h.imp id (fun q => q.2.2.2)⟩
  · rw [if_neg h1]
    exact ⟨.inl, fun h => h.elim id (fun q => absurd ⟨q.1, q.2.1, q.2.2.1⟩ h1)⟩
theorem zmkF_row {s v k l b : Int} {M : ZM} (h : b ≠ 43) : zfi (zmkf s v) k l M b = M b := zfi_kp (P := fun N : ZM => N b = M b) _ _ _ (fun i N _ hN => by
    unfold zmkf
    (repeat' split) <;> first | exact hN | exact (zup_row h).trans hN) rfl
theorem zmkF_43 {s v x : Int} {M : ZM} (hs : 0 ≤ s) (hx : 0 ≤ x ∧ x < 101) : ∀ (n : Nat) (l : Int), l.toNat = n → (¬ zfi (zmkf s v) 1 l M 43 x = 0 ↔ ¬ M 43 x = 0 ∨ ∃ k, (1 ≤ k ∧ k ≤ l) ∧ zMk M s v k x)
  | 0, l, e => by
    rw [zfi_N (by omega)]
    exact ⟨.inl, fun h => h.elim id (fun ⟨k, hk, _⟩ => by omega)⟩
  | n + 1, l, e => by
    have ih := zmkF_43 (s := s) (v := v) (M := M) hs hx n (l - 1) (by omega)
    have e2 : zfi (zmkf s v) 1 l M = zmkf s v l (zfi (zmkf s v) 1 (l - 1) M) := by
      have := zfi_L (f := zmkf s v) _ 1 (l - 1) M rfl (by omega)
      rw [show l - 1 + 1 = l by omega] at this
      exact this
    rw [e2, zmkf_43 hx, ih]
    have e3 : zMk (zfi (zmkf s v) 1 (l - 1) M) s v l x ↔ zMk M s v l x := by
      unfold zMk
      rw [zmkF_row (by omega)]
    rw [e3]
    constructor
    · rintro ((h | ⟨k, hk, h⟩) | h)
      · exact .inl h
      · exact .inr ⟨k, by omega, h⟩
      · exact .inr ⟨l, by omega, h⟩
    · rintro (h | ⟨k, hk, h⟩)
      · exact .inl (.inl h)
      · by_cases ek : k = l
        · subst ek; exact .inr h
        · exact .inl (.inr ⟨k, by omega, h⟩)
theorem zclm_43 {x : Int} {M : ZM} : ∀ (n : Nat) (l : Int), (l + 1).toNat = n → 0 ≤ x → x ≤ l → zfi zclm 0 l M 43 x = 0
  | 0, l, e, h0, h => by omega
  | n + 1, l, e, h0, h => by
    have e2 : zfi zclm 0 l M = zclm l (zfi zclm 0 (l - 1) M) := by
      have := zfi_L (f := zclm) _ 0 (l - 1) M rfl (by omega)
      rw [show l - 1 + 1 = l by omega] at this
      exact this
    rw [e2]
    unfold zclm
    by_cases ex : x = l
    · rw [zup_eq ⟨rfl, ex⟩]
    · rw [zup_ne (fun q => ex q.2)]
      exact zclm_43 n (l - 1) (by omega) h0 (by omega)
theorem zmrM_43 {A : ZM} {bs a b x : Int} (hx : 0 ≤ x ∧ x < 101) : ¬ zmrM A bs a b 43 x = 0 ↔ (∃ k, (1 ≤ k ∧ k ≤ min (A (44 + 2 * (a % 3)) 1) (a / 3 - 1)) ∧ zMk A (a % 3) bs k x) ∨ (∃ k, (1 ≤ k ∧ k ≤ min (A (44 + 2 * (b % 3)) 1) (b / 3 - 1)) ∧ zMk A (b % 3) bs k x) := by
  have c0 : ∀ c, c ≠ 43 → zfi zclm 0 100 A c = A c := fun c hc => zfi_kp (P := fun N : ZM => N c = A c) _ _ _ (fun i N _ hN => (zup_row hc).trans hN) rfl
  have k1 : ∀ k, zMk (zfi zclm 0 100 A) (a % 3) bs k x ↔ zMk A (a % 3) bs k x := fun k => by
    unfold zMk; rw [c0 _ (by omega)]
  have k2 : ∀ k, zMk (zfi (zmkf (a % 3) bs) 1 (min (A (44 + 2 * (a % 3)) 1) (a / 3 - 1)) (zfi zclm 0 100 A)) (b % 3) bs k x ↔ zMk A (b % 3) bs k x := fun k => by
    unfold zMk; rw [zmkF_row (by omega), c0 _ (by omega)]
  unfold zmrM
  rw [zmkF_43 (by omega) hx _ _ rfl, zmkF_43 (by omega) hx _ _ rfl, zclm_43 _ 100 rfl hx.1 (by omega)]
  simp only [k1, k2, not_true_eq_false, false_or]
/-- the greatest view below one that a server's first messages are bound to -/
theorem zLV_ok {A : ZM} {s v : Int} (hv : 0 < v) : ∀ (n : Nat) (l : Int), l.toNat = n → (zfi (zlvf A s v) 1 l 0 = 0 ∨ ∃ k, (1 ≤ k ∧ k ≤ l) ∧ A (45 + 2 * s) (k * 5 + 1) = zfi (zlvf A s v) 1 l 0 ∧ zfi (zlvf A s v) 1 l 0 < v ∧ A (45 + 2 * s) (k * 5 + 0) ≠ 2 ∧ A (45 + 2 * s) (k * 5 + 4) = 0) ∧ (∀ k, 1 ≤ k ∧ k ≤ l → A (45 + 2 * s) (k * 5 + 1) < v → A (45 + 2 * s) (k * 5 + 0) ≠ 2 → A (45 + 2 * s) (k * 5 + 4) = 0 → A (45 + 2 * s) (k * 5 + 1) ≤ zfi (zlvf A s v) 1 l 0)
  | 0, l, e => by
    rw [zfi_N (by omega)]
    exact ⟨.inl rfl, fun k hk => by omega⟩
  | n + 1, l, e => by
    have hl1 : 1 ≤ l := by omega
    obtain ⟨i1, i2⟩ := zLV_ok (A := A) (s := s) hv n (l - 1) (by omega)
    have e2 : zfi (zlvf A s v) 1 l 0 = zlvf A s v l (zfi (zlvf A s v) 1 (l - 1) 0) := by
      have := zfi_L (f := zlvf A s v) _ 1 (l - 1) 0 rfl (by omega)
      rw [show l - 1 + 1 = l by omega] at this
      exact this
    rw [e2]
    generalize zfi (zlvf A s v) 1 (l - 1) 0 = g at *
    unfold zlvf
    split
    · rename_i hc
      constructor
      · by_cases hm : A (45 + 2 * s) (l * 5 + 1) ≤ g
        · rw [show max g (A (45 + 2 * s) (l * 5 + 1)) = g by omega]
          rcases i1 with h | ⟨k, hk, h⟩
          · exact .inl h
          · exact .inr ⟨k, by omega, h⟩
        · rw [show max g (A (45 + 2 * s) (l * 5 + 1)) = A (45 + 2 * s) (l * 5 + 1) by omega]
          exact .inr ⟨l, ⟨hl1, Int.le_refl l⟩, rfl, hc⟩
      · intro k hk h1 h2 h3
        by_cases ek : k = l
        · subst ek; omega
        · have := i2 k (by omega) h1 h2 h3; omega
    · rename_i hc
      constructor
      · rcases i1 with h | ⟨k, hk, h⟩
        · exact .inl h
        · exact .inr ⟨k, by omega, h⟩
      · intro k hk h1 h2 h3
        by_cases ek : k = l
        · subst ek; exact absurd ⟨h1, h2, h3⟩ hc
        · exact i2 k (by omega) h1 h2 h3
theorem zbfi_ok {P : Int → Bool} : ∀ (n : Nat) (u : Int), u.toNat = n → 0 ≤ u → (zbfi P u = 0 ∨ P (zbfi P u) = true) ∧ (∀ y, zbfi P u < y → y ≤ u → ¬ P y = true)
  | 0, u, e, h0 => by
    rw [zbfi_N (by omega)]
    exact ⟨.inl rfl, fun y h1 h2 => by omega⟩
  | n + 1, u, e, h0 => by
    have ih := zbfi_ok (P := P) n (u - 1) (by omega) (by omega)
    rw [zbfi_S (by omega), show u + -1 = u - 1 by omega]
    split
    · rename_i h
      exact ⟨.inr h, fun y h1 h2 => by omega⟩
    · rename_i h
      refine ⟨ih.1, fun y h1 h2 => ?_⟩
      by_cases ey : y = u
      · rw [ey]; exact h
      · exact ih.2 y h1 (by omega)
