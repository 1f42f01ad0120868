-- plans, from the band
def tryS (σ : St) (G : Nat) (kd : Nat → Nat) (n L : Nat) : Nat → St
  | 0 => σ
  | s + 1 => if s &&& (63 ^^^ L) = 0 then uI (uI (tryS σ G kd n L s) 35 s (bI (trT σ G kd n s))) 36 s (sumI (ltA kd (σ.1 28) G s) n) else tryS σ G kd n L s
theorem tryS_k (σ : St) (G : Nat) (kd : Nat → Nat) (n L : Nat) {k : Nat} (h1 : k ≠ 35) (h2 : k ≠ 36) : ∀ s, (tryS σ G kd n L s).1 k = σ.1 k
  | 0 => rfl
  | s + 1 => by
    have ih := tryS_k σ G kd n L h1 h2 s
    simp only [tryS]
    split
    · rw [uI_o _ _ _ _ h2, uI_o _ _ _ _ h1, ih]
    · exact ih
theorem tryS_ok {σ : St} {n G : Nat} {kd : Nat → Nat} {L : Nat} (h : bkOk σ n G kd) (s : Nat) : bkOk (tryS σ G kd n L s) n G kd := bkOk_of h (by rw [tryS_k _ _ _ _ _ (by decide) (by decide)]) (by rw [tryS_k _ _ _ _ _ (by decide) (by decide)]) (by rw [tryS_k _ _ _ _ _ (by decide) (by decide)])
theorem tkS_tr (σ : St) (G : Nat) (kd : Nat → Nat) (n L s a : Nat) : tkS (tryS σ G kd n L s) G kd a = tkS σ G kd a := by
  unfold tkS
  rw [tryS_k _ _ _ _ _ (by decide) (by decide), tryS_k _ _ _ _ _ (by decide) (by decide), tryS_k _ _ _ _ _ (by decide) (by decide)]
def prcS (σ : St) (kd : Nat → Nat) : Nat → St := cpF σ 37 0 (fun i => priceS (kd i) (σ.1 19 9) (σ.1 31 i))
def goS (σ : St) (G : Nat) (kd : Nat → Nat) (n L m : Nat) : St :=
  uI (uI (uI (uI (uI (uI (prcS (tryS σ G kd n L 64) kd n) 34 6 (σ.1 19 10)) 34 7 (nI L)) 34 5 (nI m)) 34 8 (-1)) 34 9 0) 34 10 63
def plnS (σ : St) (G : Nat) (kd : Nat → Nat) (n L m : Nat) : St := gofS m m 0 L (σ.1 19 17) 0 (goS σ G kd n L m)
