/-! PURE: what a day costs and is worth -/
def tOK (f t : Int → Int) : Prop := ∀ g, 0 ≤ g → g < f 2 → 0 ≤ t g ∧ t g ≤ 6
def cOK (c : Int → Int) : Prop := ∀ h, 0 ≤ h → h < 6 → 0 ≤ c h ∧ c h ≤ 30
theorem nOK_2 {f : Int → Int} (h : nOK f) : 0 ≤ f 2 ∧ f 2 ≤ 4 := h.2.2.1
theorem nOK_1 {f : Int → Int} (h : nOK f) : 0 ≤ f 1 ∧ f 1 ≤ 9 := h.2.1
theorem nOK_0 {f : Int → Int} (h : nOK f) : 0 ≤ f 0 ∧ f 0 ≤ 2 := h.1
theorem nOK_3 {f : Int → Int} (h : nOK f) : 0 ≤ f 3 ∧ f 3 ≤ 999 := h.2.2.2.1
theorem nOK_4 {f : Int → Int} (h : nOK f) : 0 ≤ f 4 ∧ f 4 ≤ 6 := h.2.2.2.2.1
theorem nOK_5 {f : Int → Int} (h : nOK f) : 0 ≤ f 5 ∧ f 5 ≤ 63 := h.2.2.2.2.2.1
theorem nOK_p {f : Int → Int} (h : nOK f) : ∀ h, 0 ≤ h → h < 6 → 0 ≤ f (6 + h) ∧ f (6 + h) ≤ 30 := h.2.2.2.2.2.2.1
theorem nOK_g {f : Int → Int} (h : nOK f) : ∀ g, 0 ≤ g → g < f 2 → (1 ≤ f (12 + g) ∧ f (12 + g) ≤ 5) ∧ (0 ≤ f (16 + g) ∧ f (16 + g) ≤ 20) ∧ (1 ≤ f (20 + g) ∧ f (20 + g) ≤ 6) ∧ (0 ≤ f (24 + g) ∧ f (24 + g) ≤ 9999) ∧ (0 ≤ f (28 + g) ∧ f (28 + g) ≤ 9999) ∧ (0 ≤ f (32 + g) ∧ f (32 + g) ≤ 1) ∧ (0 ≤ f (36 + g) ∧ f (36 + g) ≤ 6) ∧ (0 ≤ f (40 + g) ∧ f (40 + g) ≤ 1) ∧ (f (32 + g) = 0 → f (36 + g) = f 4) := h.2.2.2.2.2.2.2
def pHeads (f : Int → Int) (g : Int) : Int := if f (12 + g) = 5 then 2 else 1
def pCnt (f t : Int → Int) (l k : Int) : Int := az_F (fun g a => if l < t g then a + pHeads f g else a) 0 k
def pLong (f t : Int → Int) : Int := az_F (fun g a => if a < t g then t g else a) 0 (f 2)
def pBill (c : Int → Int) (l : Int) : Int := az_F (fun h a => a + c h) 0 l
/-- a part of k heads, where so many heads are ahead -/
def pMore (S all ahead k : Int) : Int := if S % all - ahead < 0 then 0 else if k < S % all - ahead then k else S % all - ahead
def pAlk (f t : Int → Int) (S l g : Int) : Int := if l < t g then S / pCnt f t l (f 2) * pHeads f g + pMore S (pCnt f t l (f 2)) (pCnt f t l g) (pHeads f g) else 0
def pWgt (f t : Int → Int) (k : Int) : Int := az_F (fun g a => a + t g * pHeads f g) 0 k
def pLft (f t : Int → Int) (S k : Int) : Int := az_F (fun g a => a - S * t g * pHeads f g / pWgt f t (f 2)) S k
def pFst (t : Int → Int) (L k : Int) : Int := az_F (fun g a => if a = -1000000 ∧ t g = L then g else a) (-1000000) k
def pByW (f t : Int → Int) (S L g : Int) : Int := if pWgt f t (f 2) = 0 then 0 else S * t g * pHeads f g / pWgt f t (f 2) + (if g = pFst t L (f 2) then pLft f t S (f 2) else 0)
def pByH (f t c : Int → Int) (g k : Int) : Int := az_F (fun h a => a + pAlk f t (c h) h g) 0 k
def pShr (f t c : Int → Int) (sp g : Int) : Int := if sp = 0 then pAlk f t (pBill c (pLong f t)) (pLong f t - 1) g else if sp = 1 then pByW f t (pBill c (pLong f t)) (pLong f t) g else pByH f t c g (t g)
def pPay (f t c : Int → Int) (sp g : Int) : Int := pShr f t c sp g + (if f (40 + g) = 1 then f 1 * t g else 0)
def pOth (f t : Int → Int) (g h k : Int) : Int := az_F (fun o a => if o ≠ g ∧ h < t o then a + 1 else a) 0 k
def pJ0 (f : Int → Int) (g h : Int) : Int := if f (40 + g) = 1 then f (16 + g) / 2 else if f (20 + g) ≤ h then - f (16 + g) else f (16 + g)
def pJoyA (f : Int → Int) (g h : Int) : Int := if f (12 + g) = 3 ∧ h ≤ 2 then 2 * pJ0 f g h else pJ0 f g h
def pComp (f : Int → Int) (g : Int) : Int := if f (12 + g) = 2 then 1 else if f (12 + g) = 4 ∨ f (12 + g) = 5 then -1 else 0
def pJoy (f t : Int → Int) (g h : Int) : Int := pJoyA f g h + pOth f t g h (f 2) * pComp f g
def pJoys (f t : Int → Int) (g k : Int) : Int := az_F (fun h a => a + pJoy f t g h) 0 k
def pWor (f t c : Int → Int) (sp g : Int) : Int := pJoys f t g (t g) - pPay f t c sp g
def pW (f t c : Int → Int) (sp g n : Int) : Int := pWor f (up1 t g n) c sp g
def pBstK (f t c : Int → Int) (sp g k : Int) : Int := az_F (fun n b => if n = 0 ∨ pW f t c sp g b < pW f t c sp g n then n else b) 0 k
def pBst (f t c : Int → Int) (sp g : Int) : Int := pBstK f t c sp g 7
def pCon (f t c : Int → Int) (sp g : Int) : Prop := ∀ n, 0 ≤ n → n < 7 → pW f t c sp g n ≤ pWor f t c sp g
theorem pHeads_b (f : Int → Int) (g : Int) : 1 ≤ pHeads f g ∧ pHeads f g ≤ 2 := by
  unfold pHeads
  split <;> omega
theorem pCnt_S (f t : Int → Int) (l : Int) {k : Int} (h : 0 ≤ k) : pCnt f t l (k + 1) = if l < t k then pCnt f t l k + pHeads f k else pCnt f t l k := az_FS _ _ h
theorem pCnt_b (f t : Int → Int) (l : Int) {k : Int} (h : 0 ≤ k) : 0 ≤ pCnt f t l k ∧ pCnt f t l k ≤ 2 * k := by
  refine az_Finv (fun k a => 0 ≤ a ∧ a ≤ 2 * k) h (by omega) (fun g a h0 h1 hp => ?_)
  have := pHeads_b f g
  split <;> omega
theorem pCnt_m (f t : Int → Int) (l : Int) {i k : Int} (h : 0 ≤ i) (hk : i ≤ k) : pCnt f t l i ≤ pCnt f t l k := by
  have H : ∀ n : Nat, pCnt f t l i ≤ pCnt f t l (i + n) := by
    intro n
    induction n with
    | zero => simp
    | succ n ih =>
      have e : i + ((n + 1 : Nat) : Int) = (i + n) + 1 := by omega
      rw [e, pCnt_S f t l (by omega)]
      have := pHeads_b f (i + n)
      split <;> omega
  have := H (k - i).toNat
  have e : i + ((k - i).toNat : Int) = k := by omega
  rwa [e] at this
/-- one who is there is counted -/
theorem pCnt_in (f t : Int → Int) (l : Int) {g k : Int} (h : 0 ≤ g) (hk : g < k) (hl : l < t g) : pCnt f t l g + pHeads f g ≤ pCnt f t l k := by
  have h1 := pCnt_m f t l (i := g + 1) (k := k) (by omega) (by omega)
  rw [pCnt_S f t l h, if_pos hl] at h1
  exact h1
theorem pLong_k (t : Int → Int) {k : Int} (hk : 0 ≤ k) (ht : ∀ g, 0 ≤ g → g < k → 0 ≤ t g ∧ t g ≤ 6) : (0 ≤ az_F (fun g a => if a < t g then t g else a) 0 k ∧ az_F (fun g a => if a < t g then t g else a) 0 k ≤ 6) ∧ (∀ g, 0 ≤ g → g < k → t g ≤ az_F (fun g a => if a < t g then t g else a) 0 k) ∧ (az_F (fun g a => if a < t g then t g else a) 0 k = 0 ∨ ∃ g, 0 ≤ g ∧ g < k ∧ t g = az_F (fun g a => if a < t g then t g else a) 0 k) := by
  refine az_Finv (s := fun g a => if a < t g then t g else a) (a := (0 : Int)) (fun k a => (0 ≤ a ∧ a ≤ 6) ∧ (∀ g, 0 ≤ g → g < k → t g ≤ a) ∧ (a = 0 ∨ ∃ g, 0 ≤ g ∧ g < k ∧ t g = a)) hk ⟨by omega, fun g _ _ => by omega, Or.inl rfl⟩ (fun g a h0 h1 hp => ?_)
  have hg := ht g h0 h1
  obtain ⟨h2, h3, h4⟩ := hp
  split
  · refine ⟨hg, fun j hj0 hj1 => ?_, Or.inr ⟨g, h0, by omega, rfl⟩⟩
    by_cases e : j = g
    · subst e; omega
    · have := h3 j hj0 (by omega); omega
  · refine ⟨h2, fun j hj0 hj1 => ?_, ?_⟩
    · by_cases e : j = g
      · subst e; omega
      · exact h3 j hj0 (by omega)
    · rcases h4 with h4 | ⟨j, hj0, hj1, hj2⟩
      · exact Or.inl h4
      · exact Or.inr ⟨j, hj0, by omega, hj2⟩
theorem pLong_b {f t : Int → Int} (hn : 0 ≤ f 2) (ht : tOK f t) : 0 ≤ pLong f t ∧ pLong f t ≤ 6 := (pLong_k t hn ht).1
theorem pLong_m {f t : Int → Int} (hn : 0 ≤ f 2) (ht : tOK f t) : ∀ g, 0 ≤ g → g < f 2 → t g ≤ pLong f t := (pLong_k t hn ht).2.1
theorem pLong_e {f t : Int → Int} (hn : 0 ≤ f 2) (ht : tOK f t) : pLong f t = 0 ∨ ∃ g, 0 ≤ g ∧ g < f 2 ∧ t g = pLong f t := (pLong_k t hn ht).2.2
theorem pBill_S (c : Int → Int) {k : Int} (h : 0 ≤ k) : pBill c (k + 1) = pBill c k + c k := az_FS _ _ h
theorem pBill_b {c : Int → Int} (hc : cOK c) {k : Int} (h0 : 0 ≤ k) (h1 : k ≤ 6) : 0 ≤ pBill c k ∧ pBill c k ≤ 30 * k := by
  refine az_Finv (fun k a => 0 ≤ a ∧ a ≤ 30 * k) h0 (by omega) (fun g a h2 h3 hp => ?_)
  have := hc g h2 (by omega)
  omega
theorem pMore_b {S all ahead k : Int} (hk : 0 ≤ k) : 0 ≤ pMore S all ahead k ∧ pMore S all ahead k ≤ k := by
  unfold pMore
  split
  · omega
  · split <;> omega
theorem pAlk_b (f t : Int → Int) {S l g : Int} (hS : 0 ≤ S) (hg : 0 ≤ g) (hn : g < f 2) : 0 ≤ pAlk f t S l g ∧ pAlk f t S l g ≤ 2 * S + 2 := by
  unfold pAlk
  split
  · next h =>
    have h1 := pHeads_b f g
    have h2 := pMore_b (S := S) (all := pCnt f t l (f 2)) (ahead := pCnt f t l g) (k := pHeads f g) (by omega)
    have h4 := pCnt_b f t l hg
    have h3 := pCnt_in f t l hg hn h
    have h5 : 0 ≤ S / pCnt f t l (f 2) := Int.ediv_nonneg hS (by omega)
    have h6 : S / pCnt f t l (f 2) ≤ S := Int.ediv_le_self _ hS
    have h7 := az_mulb h5 h6 (show 0 ≤ pHeads f g by omega) h1.2
    omega
  · omega
theorem pWgt_S (f t : Int → Int) {k : Int} (h : 0 ≤ k) : pWgt f t (k + 1) = pWgt f t k + t k * pHeads f k := az_FS _ _ h
theorem pWgt_b {f t : Int → Int} (hn : f 2 ≤ 4) (ht : tOK f t) {k : Int} (h : 0 ≤ k) (hk : k ≤ f 2) : 0 ≤ pWgt f t k ∧ pWgt f t k ≤ 12 * k := by
  refine az_Finv (fun k a => 0 ≤ a ∧ a ≤ 12 * k) h (by omega) (fun g a h0 h1 hp => ?_)
  have h2 := pHeads_b f g
  have h3 := ht g h0 (by omega)
  have h4 := az_mulb h3.1 h3.2 (show 0 ≤ pHeads f g by omega) h2.2
  omega
theorem pWgt_m {f t : Int → Int} (ht : tOK f t) {i k : Int} (h : 0 ≤ i) (hk : i ≤ k) (hn : k ≤ f 2) : pWgt f t i ≤ pWgt f t k := by
  have H : ∀ n : Nat, i + n ≤ f 2 → pWgt f t i ≤ pWgt f t (i + n) := by
    intro n
    induction n with
    | zero => intro _; simp
    | succ n ih =>
      intro hh
      have e : i + ((n + 1 : Nat) : Int) = (i + n) + 1 := by omega
      rw [e, pWgt_S f t (by omega)]
      have h2 := pHeads_b f (i + n)
      have h3 := ht (i + n) (by omega) (by omega)
      have h4 := az_mulb h3.1 h3.2 (show 0 ≤ pHeads f (i + n) by omega) h2.2
      have := ih (by omega)
      omega
  have := H (k - i).toNat (by omega)
  have e : i + ((k - i).toNat : Int) = k := by omega
  rwa [e] at this
theorem pWgt_pos {f t : Int → Int} (hn : 0 ≤ f 2) (ht : tOK f t) (h : 0 < pLong f t) : 0 < pWgt f t (f 2) := by
  rcases pLong_e hn ht with h1 | ⟨g, h1, h2, h3⟩
  · omega
  · have a := pWgt_m ht (i := g + 1) (k := f 2) (by omega) (by omega) (by omega)
    rw [pWgt_S f t h1] at a
    have b := pWgt_m ht (i := 0) (k := g) (by omega) h1 (by omega)
    have e : pWgt f t 0 = 0 := rfl
    have h4 := pHeads_b f g
    have h5 : 1 * 1 ≤ t g * pHeads f g := Int.mul_le_mul (by omega) h4.1 (by omega) (by omega)
    omega
theorem pLft_b {f t : Int → Int} {S : Int} (hn : 0 ≤ f 2 ∧ f 2 ≤ 4) (ht : tOK f t) (hS : 0 ≤ S) (hd : 0 < pWgt f t (f 2)) {k : Int} (h0 : 0 ≤ k) (hk : k ≤ f 2) : 0 ≤ pLft f t S k ∧ pLft f t S k ≤ S := by
  have H : pLft f t S k ≤ S ∧ pWgt f t (f 2) * (S - pLft f t S k) ≤ S * pWgt f t k := by
    refine az_Finv (s := fun g a => a - S * t g * pHeads f g / pWgt f t (f 2)) (a := S) (fun k a => a ≤ S ∧ pWgt f t (f 2) * (S - a) ≤ S * pWgt f t k) h0 ⟨by omega, ?_⟩ (fun g a h2 h3 hp => ?_)
    · have e : pWgt f t 0 = 0 := rfl
      rw [e]
      simp
    · have h4 := pHeads_b f g
      have h5 := ht g h2 (by omega)
      have h6 : 0 ≤ S * t g * pHeads f g := Int.mul_nonneg (Int.mul_nonneg hS h5.1) (by omega)
      have h7 : 0 ≤ S * t g * pHeads f g / pWgt f t (f 2) := Int.ediv_nonneg h6 (by omega)
      have h8 : pWgt f t (f 2) * (S * t g * pHeads f g / pWgt f t (f 2)) ≤ S * t g * pHeads f g := Int.mul_ediv_self_le (by omega)
      refine ⟨by omega, ?_⟩
      rw [pWgt_S f t h2, Int.mul_add, ← Int.mul_assoc S]
      have e : S - (a - S * t g * pHeads f g / pWgt f t (f 2)) = (S - a) + S * t g * pHeads f g / pWgt f t (f 2) := by omega
      rw [e, Int.mul_add]
      have := hp.2
      omega
  refine ⟨?_, H.1⟩
  have h1 : S * pWgt f t k ≤ S * pWgt f t (f 2) := Int.mul_le_mul_of_nonneg_left (pWgt_m ht h0 hk (by omega)) hS
  have h2 : pWgt f t (f 2) * (S - pLft f t S k) ≤ pWgt f t (f 2) * S := by
    rw [Int.mul_comm (pWgt f t (f 2)) S]
    omega
  have h3 := Int.le_of_mul_le_mul_left h2 hd
  omega
theorem pW1_b {f t : Int → Int} {S g : Int} (ht : tOK f t) (hS : 0 ≤ S ∧ S ≤ 180) (h0 : 0 ≤ g) (h1 : g < f 2) : (0 ≤ S * t g ∧ S * t g ≤ 1080) ∧ (0 ≤ S * t g * pHeads f g ∧ S * t g * pHeads f g ≤ 2160) := by
  have h2 := pHeads_b f g
  have h3 := ht g h0 h1
  have h4 := az_mulb hS.1 hS.2 h3.1 h3.2
  have h5 := az_mulb h4.1 h4.2 (show 0 ≤ pHeads f g by omega) h2.2
  omega
theorem pByW_b {f t : Int → Int} {S L g : Int} (hn : 0 ≤ f 2 ∧ f 2 ≤ 4) (ht : tOK f t) (hS : 0 ≤ S ∧ S ≤ 180) (h0 : 0 ≤ g) (h1 : g < f 2) : 0 ≤ pByW f t S L g ∧ pByW f t S L g ≤ 3000 := by
  unfold pByW
  split
  · omega
  · next h =>
    have h2 := pWgt_b hn.2 ht (k := f 2) hn.1 (by omega)
    have h3 := pW1_b ht hS h0 h1
    have h4 : 0 ≤ S * t g * pHeads f g / pWgt f t (f 2) := Int.ediv_nonneg h3.2.1 (by omega)
    have h5 : S * t g * pHeads f g / pWgt f t (f 2) ≤ S * t g * pHeads f g := Int.ediv_le_self _ h3.2.1
    have h6 := pLft_b hn ht hS.1 (by omega) (k := f 2) (by omega) (by omega)
    split <;> omega
theorem pByH_S (f t c : Int → Int) (g : Int) {k : Int} (h : 0 ≤ k) : pByH f t c g (k + 1) = pByH f t c g k + pAlk f t (c k) k g := az_FS _ _ h
theorem pByH_b {f t c : Int → Int} {g k : Int} (hc : cOK c) (h0 : 0 ≤ g) (h1 : g < f 2) (hk : 0 ≤ k) (hk6 : k ≤ 6) : 0 ≤ pByH f t c g k ∧ pByH f t c g k ≤ 62 * k := by
  refine az_Finv (s := fun h a => a + pAlk f t (c h) h g) (fun k a => 0 ≤ a ∧ a ≤ 62 * k) hk (by omega) (fun h a h2 h3 hp => ?_)
  have h4 := hc h h2 (by omega)
  have h5 := pAlk_b f t (S := c h) (l := h) h4.1 h0 h1
  omega
theorem pShr_b {f t c : Int → Int} {sp g : Int} (hn : 0 ≤ f 2 ∧ f 2 ≤ 4) (ht : tOK f t) (hc : cOK c) (h0 : 0 ≤ g) (h1 : g < f 2) : 0 ≤ pShr f t c sp g ∧ pShr f t c sp g ≤ 3000 := by
  have hL := pLong_b hn.1 ht
  have hB := pBill_b hc hL.1 hL.2
  have htg := ht g h0 h1
  unfold pShr
  split
  · have := pAlk_b f t (S := pBill c (pLong f t)) (l := pLong f t - 1) hB.1 h0 h1
    omega
  · split
    · exact pByW_b hn ht (by omega) h0 h1
    · have := pByH_b (f := f) (t := t) (k := t g) hc h0 h1 htg.1 htg.2
      omega
theorem pFee_b {f t : Int → Int} {g : Int} (h1 : 0 ≤ f 1 ∧ f 1 ≤ 9) (ht : 0 ≤ t g ∧ t g ≤ 6) : 0 ≤ f 1 * t g ∧ f 1 * t g ≤ 54 := az_mulb h1.1 h1.2 ht.1 ht.2
theorem pPay_b {f t c : Int → Int} {sp g : Int} (hn : 0 ≤ f 2 ∧ f 2 ≤ 4) (hf : 0 ≤ f 1 ∧ f 1 ≤ 9) (ht : tOK f t) (hc : cOK c) (h0 : 0 ≤ g) (h1 : g < f 2) : 0 ≤ pPay f t c sp g ∧ pPay f t c sp g ≤ 3100 := by
  have h2 := pShr_b (sp := sp) hn ht hc h0 h1
  have h3 := pFee_b hf (ht g h0 h1)
  unfold pPay
  split <;> omega
theorem pOth_S (f t : Int → Int) (g h : Int) {k : Int} (hk : 0 ≤ k) : pOth f t g h (k + 1) = if k ≠ g ∧ h < t k then pOth f t g h k + 1 else pOth f t g h k := az_FS _ _ hk
theorem pOth_b (f t : Int → Int) (g h : Int) {k : Int} (hk : 0 ≤ k) : 0 ≤ pOth f t g h k ∧ pOth f t g h k ≤ k := by
  refine az_Finv (s := fun o a => if o ≠ g ∧ h < t o then a + 1 else a) (fun k a => 0 ≤ a ∧ a ≤ k) hk (by omega) (fun o a h2 h3 hp => ?_)
  split <;> omega
theorem pJ0_b {f : Int → Int} {g h : Int} (hf : 0 ≤ f (16 + g) ∧ f (16 + g) ≤ 20) : -20 ≤ pJ0 f g h ∧ pJ0 f g h ≤ 20 := by
  unfold pJ0
  split
  · omega
  · split <;> omega
theorem pJoyA_b {f : Int → Int} {g h : Int} (hf : 0 ≤ f (16 + g) ∧ f (16 + g) ≤ 20) : -40 ≤ pJoyA f g h ∧ pJoyA f g h ≤ 40 := by
  have := pJ0_b (h := h) hf
  unfold pJoyA
  split <;> omega
theorem pJoy_e (f t : Int → Int) (g h : Int) : pJoy f t g h = if f (12 + g) = 2 then pJoyA f g h + pOth f t g h (f 2) else if f (12 + g) = 4 ∨ f (12 + g) = 5 then pJoyA f g h - pOth f t g h (f 2) else pJoyA f g h := by
  unfold pJoy pComp
  split
  · omega
  · split <;> omega
theorem pJoy_b {f t : Int → Int} {g h : Int} (hn : 0 ≤ f 2 ∧ f 2 ≤ 4) (hf : 0 ≤ f (16 + g) ∧ f (16 + g) ≤ 20) : -44 ≤ pJoy f t g h ∧ pJoy f t g h ≤ 44 := by
  have h1 := pJoyA_b (h := h) hf
  have h2 := pOth_b f t g h hn.1
  rw [pJoy_e]
  split
  · omega
  · split <;> omega
theorem pJoys_S (f t : Int → Int) (g : Int) {k : Int} (h : 0 ≤ k) : pJoys f t g (k + 1) = pJoys f t g k + pJoy f t g k := az_FS _ _ h
theorem pJoys_b {f t : Int → Int} {g k : Int} (hn : 0 ≤ f 2 ∧ f 2 ≤ 4) (hf : 0 ≤ f (16 + g) ∧ f (16 + g) ≤ 20) (hk : 0 ≤ k) : -44 * k ≤ pJoys f t g k ∧ pJoys f t g k ≤ 44 * k := by
  refine az_Finv (s := fun h a => a + pJoy f t g h) (fun k a => -44 * k ≤ a ∧ a ≤ 44 * k) hk (by omega) (fun h a h2 h3 hp => ?_)
  have := pJoy_b (t := t) (g := g) (h := h) hn hf
  omega
theorem pWor_b {f t c : Int → Int} {sp g : Int} (hN : nOK f) (ht : tOK f t) (hc : cOK c) (h0 : 0 ≤ g) (h1 : g < f 2) : -4000 ≤ pWor f t c sp g ∧ pWor f t c sp g ≤ 4000 := by
  have h2 := pPay_b (sp := sp) (nOK_2 hN) (nOK_1 hN) ht hc h0 h1
  have h3 := ht g h0 h1
  have h4 := pJoys_b (t := t) (k := t g) (nOK_2 hN) (nOK_g hN g h0 h1).2.1 h3.1
  unfold pWor
  omega
theorem tOK_up {f t : Int → Int} (ht : tOK f t) {g n : Int} (hn : 0 ≤ n ∧ n ≤ 6) : tOK f (up1 t g n) := by
  intro j h0 h1
  unfold up1
  split
  · exact hn
  · exact ht j h0 h1
/-- the joy of an hour does not hang on one's own hours -/
theorem pOth_up (f t : Int → Int) (g n h k : Int) (hk : 0 ≤ k) : pOth f (up1 t g n) g h k = pOth f t g h k := by
  refine az_Fcong (fun o a _ _ => ?_) hk
  by_cases e : o = g
  · subst e; simp
  · rw [up1_ne _ _ e]
theorem pJoys_up {f : Int → Int} (t : Int → Int) (g n k : Int) (hn : 0 ≤ f 2) (hk : 0 ≤ k) : pJoys f (up1 t g n) g k = pJoys f t g k := by
  refine az_Fcong (fun h a _ _ => ?_) hk
  unfold pJoy
  rw [pOth_up f t g n h (f 2) hn]
theorem pW_e {f t c : Int → Int} {sp g n : Int} (hn : 0 ≤ f 2) (h : 0 ≤ n) : pW f t c sp g n = pJoys f t g n - pPay f (up1 t g n) c sp g := by
  unfold pW pWor
  rw [up1_at, pJoys_up t g n n hn h]
theorem pW_id (f t c : Int → Int) (sp g : Int) : pW f t c sp g (t g) = pWor f t c sp g := by
  unfold pW
  rw [up1_id]
theorem pW_up (f t c : Int → Int) (sp g n k : Int) : pW f (up1 t g k) c sp g n = pW f t c sp g n := by
  unfold pW
  rw [up1_up]
theorem pBstK_b (f t c : Int → Int) (sp g : Int) {k : Int} (hk : 1 ≤ k) : (0 ≤ pBstK f t c sp g k ∧ pBstK f t c sp g k < k) ∧ ∀ n, 0 ≤ n → n < k → pW f t c sp g n ≤ pW f t c sp g (pBstK f t c sp g k) := by
  have H := az_Finv (s := fun n b => if n = 0 ∨ pW f t c sp g b < pW f t c sp g n then n else b) (a := (0 : Int)) (fun k b => (0 ≤ b ∧ (b < k ∨ k = 0)) ∧ ∀ n, 0 ≤ n → n < k → pW f t c sp g n ≤ pW f t c sp g b) (k := k) (by omega) ⟨by omega, fun n h0 h1 => by omega⟩ (fun i b h2 h3 hp => by
    split
    · next h =>
      refine ⟨by omega, fun n h4 h5 => ?_⟩
      rcases h with h | h
      · have : n = i := by omega
        subst this
        omega
      · by_cases e : n = i
        · subst e; omega
        · have := hp.2 n h4 (by omega)
          omega
    · next h =>
      refine ⟨by omega, fun n h4 h5 => ?_⟩
      by_cases e : n = i
      · subst e; omega
      · exact hp.2 n h4 (by omega))
  exact ⟨⟨H.1.1, by have := H.1.2; unfold pBstK; omega⟩, H.2⟩
theorem pBst_b (f t c : Int → Int) (sp g : Int) : 0 ≤ pBst f t c sp g ∧ pBst f t c sp g ≤ 6 := by
  have := (pBstK_b f t c sp g (k := 7) (by omega)).1
  unfold pBst
  omega
theorem pCon_iff {f t c : Int → Int} {sp g : Int} (ht : 0 ≤ t g ∧ t g ≤ 6) : pCon f t c sp g ↔ pW f t c sp g (t g) = pW f t c sp g (pBst f t c sp g) := by
  have hb := pBstK_b f t c sp g (k := 7) (by omega)
  constructor
  · intro h
    have h1 := h (pBst f t c sp g) (pBst_b f t c sp g).1 (by have := (pBst_b f t c sp g).2; omega)
    have h2 := hb.2 (t g) ht.1 (by omega)
    rw [← pW_id] at h1
    unfold pBst at *
    omega
  · intro h n h0 h1
    rw [← pW_id, h]
    exact hb.2 n h0 h1
/-- nobody was there: nothing is paid -/
theorem pAlk_0 (f t : Int → Int) (l g : Int) (h0 : 0 ≤ g) : pAlk f t 0 l g = 0 := by
  unfold pAlk
  split
  · have := pCnt_b f t l h0
    have := pHeads_b f g
    unfold pMore
    simp
    omega
  · rfl
theorem pShr_0 {f t c : Int → Int} {sp g : Int} (hn : 0 ≤ f 2 ∧ f 2 ≤ 4) (ht : tOK f t) (h : pLong f t = 0) (h0 : 0 ≤ g) (h1 : g < f 2) : pShr f t c sp g = 0 := by
  have h2 := pLong_m hn.1 ht g h0 h1
  have h3 := ht g h0 h1
  have h4 : t g = 0 := by omega
  unfold pShr
  rw [h, h4]
  have e : pBill c 0 = 0 := rfl
  rw [e, pAlk_0 f t _ g h0]
  split
  · rfl
  · split
    · unfold pByW
      have e2 : pLft f t 0 (f 2) = 0 ∨ pWgt f t (f 2) = 0 := by
        by_cases hw : pWgt f t (f 2) = 0
        · exact Or.inr hw
        · have h5 := pWgt_b hn.2 ht (k := f 2) hn.1 (by omega)
          have := pLft_b hn ht (S := 0) (by omega) (by omega) (k := f 2) (by omega) (by omega)
          exact Or.inl (by omega)
      split
      · rfl
      · next hw =>
        rcases e2 with e2 | e2
        · rw [e2]
          simp
        · exact absurd e2 hw
    · rfl
