def fMan (st men K1 W1 S1 km kd K2 V2 S2 N2 k pl : Int) : Prop :=
    ((7 ≤ men ∧ k = 4 ∧ pl = st) ∨ (men < 7 ∧ ((¬ (K1 = 1 ∧ W1 = -1) ∧ k = 1 ∧ pl = S1) ∨ (K1 = 1 ∧ W1 = -1 ∧ (((km ≠ -1 ∨ kd ≠ -1) ∧ k = 3 ∧ pl = S1) ∨ (km = -1 ∧ kd = -1 ∧ ((¬ (K2 = 2) ∧ k = 1 ∧ pl = S2) ∨ (K2 = 2 ∧ (V2 < 0 ∨ 90 < V2) ∧ k = 2 ∧ pl = S2) ∨ (K2 = 2 ∧ 0 ≤ V2 ∧ V2 ≤ 90 ∧ (k = 0 ∧ pl = N2)))))))))
theorem fMan_det {st men K1 W1 S1 km kd K2 V2 S2 N2 k pl k' pl' : Int} (h : fMan st men K1 W1 S1 km kd K2 V2 S2 N2 k pl) (h' : fMan st men K1 W1 S1 km kd K2 V2 S2 N2 k' pl') : k = k' ∧ pl = pl' := by
  unfold fMan at h h'; omega
def fDeed (st deeds K1 W1 S1 km kd W2 S2 K3 V3 S3 N3 k pl : Int) : Prop :=
    ((10 ≤ deeds ∧ k = 4 ∧ pl = st) ∨ (deeds < 10 ∧ ((¬ (K1 = 1 ∧ W1 = -1) ∧ k = 1 ∧ pl = S1) ∨ (K1 = 1 ∧ W1 = -1 ∧ (((km ≠ -1 ∨ kd ≠ -1) ∧ k = 3 ∧ pl = S1) ∨ (km = -1 ∧ kd = -1 ∧ ((¬ (W2 = 2 ∨ W2 = 3) ∧ k = 1 ∧ pl = S2) ∨ ((W2 = 2 ∨ W2 = 3) ∧ ((¬ (K3 = 2) ∧ k = 1 ∧ pl = S3) ∨ (K3 = 2 ∧ (V3 < 1 ∨ 40 < V3) ∧ k = 2 ∧ pl = S3) ∨ (K3 = 2 ∧ 1 ≤ V3 ∧ V3 ≤ 40 ∧ (k = 0 ∧ pl = N3)))))))))))
theorem fDeed_det {st deeds K1 W1 S1 km kd W2 S2 K3 V3 S3 N3 k pl k' pl' : Int} (h : fDeed st deeds K1 W1 S1 km kd W2 S2 K3 V3 S3 N3 k pl) (h' : fDeed st deeds K1 W1 S1 km kd W2 S2 K3 V3 S3 N3 k' pl') : k = k' ∧ pl = pl' := by
  unfold fDeed at h h'; omega
def fDid (K1 W1 S1 m1 K2 W2 S2 d2 old K3 V3 S3 N3 k pl : Int) : Prop :=
    ((¬ (K1 = 1 ∧ W1 = -1) ∧ k = 1 ∧ pl = S1) ∨ (K1 = 1 ∧ W1 = -1 ∧ ((m1 = -1 ∧ k = 3 ∧ pl = S1) ∨ (m1 ≠ -1 ∧ ((¬ (K2 = 1 ∧ W2 = -1) ∧ k = 1 ∧ pl = S2) ∨ (K2 = 1 ∧ W2 = -1 ∧ ((d2 = -1 ∧ k = 3 ∧ pl = S2) ∨ (d2 ≠ -1 ∧ ((old ≠ 0 ∧ k = 3 ∧ pl = S2) ∨ (old = 0 ∧ ((¬ (K3 = 2) ∧ k = 1 ∧ pl = S3) ∨ (K3 = 2 ∧ (V3 < 1 ∨ 9 < V3) ∧ k = 2 ∧ pl = S3) ∨ (K3 = 2 ∧ 1 ≤ V3 ∧ V3 ≤ 9 ∧ (k = 0 ∧ pl = N3)))))))))))))
theorem fDid_det {K1 W1 S1 m1 K2 W2 S2 d2 old K3 V3 S3 N3 k pl k' pl' : Int} (h : fDid K1 W1 S1 m1 K2 W2 S2 d2 old K3 V3 S3 N3 k pl) (h' : fDid K1 W1 S1 m1 K2 W2 S2 d2 old K3 V3 S3 N3 k' pl') : k = k' ∧ pl = pl' := by
  unfold fDid at h h'; omega
def fPair (K1 W1 S1 m1 K2 W2 S2 m2 p2 k pl : Int) : Prop :=
    ((¬ (K1 = 1 ∧ W1 = -1) ∧ k = 1 ∧ pl = S1) ∨ (K1 = 1 ∧ W1 = -1 ∧ ((m1 = -1 ∧ k = 3 ∧ pl = S1) ∨ (m1 ≠ -1 ∧ ((¬ (K2 = 1 ∧ W2 = -1) ∧ k = 1 ∧ pl = S2) ∨ (K2 = 1 ∧ W2 = -1 ∧ ((m2 = -1 ∧ k = 3 ∧ pl = S2) ∨ (m2 ≠ -1 ∧ ((m1 = m2 ∧ k = 3 ∧ pl = S2) ∨ (m1 ≠ m2 ∧ (k = 0 ∧ pl = p2)))))))))))
def fKin (K1 W1 S1 m1 K2 W2 S2 m2 old p3 k pl : Int) : Prop :=
    ((¬ (K1 = 1 ∧ W1 = -1) ∧ k = 1 ∧ pl = S1) ∨ (K1 = 1 ∧ W1 = -1 ∧ ((m1 = -1 ∧ k = 3 ∧ pl = S1) ∨ (m1 ≠ -1 ∧ ((¬ (K2 = 1 ∧ W2 = -1) ∧ k = 1 ∧ pl = S2) ∨ (K2 = 1 ∧ W2 = -1 ∧ ((m2 = -1 ∧ k = 3 ∧ pl = S2) ∨ (m2 ≠ -1 ∧ ((m1 = m2 ∧ k = 3 ∧ pl = S2) ∨ (m1 ≠ m2 ∧ ((old ≠ 0 ∧ k = 3 ∧ pl = S2) ∨ (old = 0 ∧ (k = 0 ∧ pl = p3)))))))))))))
theorem fKin_det {K1 W1 S1 m1 K2 W2 S2 m2 old p3 k pl k' pl' : Int} (h : fKin K1 W1 S1 m1 K2 W2 S2 m2 old p3 k pl) (h' : fKin K1 W1 S1 m1 K2 W2 S2 m2 old p3 k' pl') : k = k' ∧ pl = pl' := by
  unfold fKin at h h'; omega
def fOwes (K1 W1 S1 m1 K2 W2 S2 m2 old K3 V3 S3 N3 k pl : Int) : Prop :=
    ((¬ (K1 = 1 ∧ W1 = -1) ∧ k = 1 ∧ pl = S1) ∨ (K1 = 1 ∧ W1 = -1 ∧ ((m1 = -1 ∧ k = 3 ∧ pl = S1) ∨ (m1 ≠ -1 ∧ ((¬ (K2 = 1 ∧ W2 = -1) ∧ k = 1 ∧ pl = S2) ∨ (K2 = 1 ∧ W2 = -1 ∧ ((m2 = -1 ∧ k = 3 ∧ pl = S2) ∨ (m2 ≠ -1 ∧ ((m1 = m2 ∧ k = 3 ∧ pl = S2) ∨ (m1 ≠ m2 ∧ ((old ≠ 0 ∧ k = 3 ∧ pl = S2) ∨ (old = 0 ∧ ((¬ (K3 = 2) ∧ k = 1 ∧ pl = S3) ∨ (K3 = 2 ∧ (V3 < 1 ∨ 40 < V3) ∧ k = 2 ∧ pl = S3) ∨ (K3 = 2 ∧ 1 ≤ V3 ∧ V3 ≤ 40 ∧ (k = 0 ∧ pl = N3)))))))))))))))
theorem fOwes_det {K1 W1 S1 m1 K2 W2 S2 m2 old K3 V3 S3 N3 k pl k' pl' : Int} (h : fOwes K1 W1 S1 m1 K2 W2 S2 m2 old K3 V3 S3 N3 k pl) (h' : fOwes K1 W1 S1 m1 K2 W2 S2 m2 old K3 V3 S3 N3 k' pl') : k = k' ∧ pl = pl' := by
  unfold fOwes at h h'; omega
def fRoom (st told K1 V1 S1 N1 k pl : Int) : Prop :=
    ((told ≠ 0 ∧ k = 3 ∧ pl = st) ∨ (told = 0 ∧ ((¬ (K1 = 2) ∧ k = 1 ∧ pl = S1) ∨ (K1 = 2 ∧ (V1 < 1 ∨ 200 < V1) ∧ k = 2 ∧ pl = S1) ∨ (K1 = 2 ∧ 1 ≤ V1 ∧ V1 ≤ 200 ∧ (k = 0 ∧ pl = N1)))))
theorem fRoom_det {st told K1 V1 S1 N1 k pl k' pl' : Int} (h : fRoom st told K1 V1 S1 N1 k pl) (h' : fRoom st told K1 V1 S1 N1 k' pl') : k = k' ∧ pl = pl' := by
  unfold fRoom at h h'; omega
def fFaint (st told K1 V1 S1 N1 k pl : Int) : Prop :=
    ((told ≠ 0 ∧ k = 3 ∧ pl = st) ∨ (told = 0 ∧ ((¬ (K1 = 2) ∧ k = 1 ∧ pl = S1) ∨ (K1 = 2 ∧ (V1 < 0 ∨ 60 < V1) ∧ k = 2 ∧ pl = S1) ∨ (K1 = 2 ∧ 0 ≤ V1 ∧ V1 ≤ 60 ∧ (k = 0 ∧ pl = N1)))))
theorem fFaint_det {st told K1 V1 S1 N1 k pl k' pl' : Int} (h : fFaint st told K1 V1 S1 N1 k pl) (h' : fFaint st told K1 V1 S1 N1 k' pl') : k = k' ∧ pl = pl' := by
  unfold fFaint at h h'; omega
theorem fMan_ok {st men K1 W1 S1 km kd K2 V2 S2 N2 pl : Int} (h : fMan st men K1 W1 S1 km kd K2 V2 S2 N2 0 pl) : men < 7 ∧ K1 = 1 ∧ W1 = -1 ∧ km = -1 ∧ kd = -1 ∧ K2 = 2 ∧ 0 ≤ V2 ∧ V2 ≤ 90 ∧ pl = N2 := by
  unfold fMan at h
  rcases h with h | ⟨a0_0, h | ⟨a1_0, a1_1, h | ⟨a2_0, a2_1, h | h | ⟨a3_0, a3_1, a3_2, h⟩⟩⟩⟩
  · exfalso; omega
  · exfalso; omega
  · exfalso; omega
  · exfalso; omega
  · exfalso; omega
  · exact ⟨a0_0, a1_0, a1_1, a2_0, a2_1, a3_0, a3_1, a3_2, h.2⟩
theorem fDeed_ok {st deeds K1 W1 S1 km kd W2 S2 K3 V3 S3 N3 pl : Int} (h : fDeed st deeds K1 W1 S1 km kd W2 S2 K3 V3 S3 N3 0 pl) : deeds < 10 ∧ K1 = 1 ∧ W1 = -1 ∧ km = -1 ∧ kd = -1 ∧ (W2 = 2 ∨ W2 = 3) ∧ K3 = 2 ∧ 1 ≤ V3 ∧ V3 ≤ 40 ∧ pl = N3 := by
  unfold fDeed at h
  rcases h with h | ⟨a0_0, h | ⟨a1_0, a1_1, h | ⟨a2_0, a2_1, h | ⟨a3_0, h | h | ⟨a4_0, a4_1, a4_2, h⟩⟩⟩⟩⟩
  · exfalso; omega
  · exfalso; omega
  · exfalso; omega
  · exfalso; omega
  · exfalso; omega
  · exfalso; omega
  · exact ⟨a0_0, a1_0, a1_1, a2_0, a2_1, a3_0, a4_0, a4_1, a4_2, h.2⟩
theorem fDid_ok {K1 W1 S1 m1 K2 W2 S2 d2 old K3 V3 S3 N3 pl : Int} (h : fDid K1 W1 S1 m1 K2 W2 S2 d2 old K3 V3 S3 N3 0 pl) : K1 = 1 ∧ W1 = -1 ∧ m1 ≠ -1 ∧ K2 = 1 ∧ W2 = -1 ∧ d2 ≠ -1 ∧ old = 0 ∧ K3 = 2 ∧ 1 ≤ V3 ∧ V3 ≤ 9 ∧ pl = N3 := by
  unfold fDid at h
  rcases h with h | ⟨a0_0, a0_1, h | ⟨a1_0, h | ⟨a2_0, a2_1, h | ⟨a3_0, h | ⟨a4_0, h | h | ⟨a5_0, a5_1, a5_2, h⟩⟩⟩⟩⟩⟩
  · exfalso; omega
  · exfalso; omega
  · exfalso; omega
  · exfalso; omega
  · exfalso; omega
  · exfalso; omega
  · exfalso; omega
  · exact ⟨a0_0, a0_1, a1_0, a2_0, a2_1, a3_0, a4_0, a5_0, a5_1, a5_2, h.2⟩
theorem fPair_ok {K1 W1 S1 m1 K2 W2 S2 m2 p2 pl : Int} (h : fPair K1 W1 S1 m1 K2 W2 S2 m2 p2 0 pl) : K1 = 1 ∧ W1 = -1 ∧ m1 ≠ -1 ∧ K2 = 1 ∧ W2 = -1 ∧ m2 ≠ -1 ∧ m1 ≠ m2 ∧ pl = p2 := by
  unfold fPair at h
  rcases h with h | ⟨a0_0, a0_1, h | ⟨a1_0, h | ⟨a2_0, a2_1, h | ⟨a3_0, h | ⟨a4_0, h⟩⟩⟩⟩⟩
  · exfalso; omega
  · exfalso; omega
  · exfalso; omega
  · exfalso; omega
  · exfalso; omega
  · exact ⟨a0_0, a0_1, a1_0, a2_0, a2_1, a3_0, a4_0, h.2⟩
theorem fKin_ok {K1 W1 S1 m1 K2 W2 S2 m2 old p3 pl : Int} (h : fKin K1 W1 S1 m1 K2 W2 S2 m2 old p3 0 pl) : K1 = 1 ∧ W1 = -1 ∧ m1 ≠ -1 ∧ K2 = 1 ∧ W2 = -1 ∧ m2 ≠ -1 ∧ m1 ≠ m2 ∧ old = 0 ∧ pl = p3 := by
  unfold fKin at h
  rcases h with h | ⟨a0_0, a0_1, h | ⟨a1_0, h | ⟨a2_0, a2_1, h | ⟨a3_0, h | ⟨a4_0, h | ⟨a5_0, h⟩⟩⟩⟩⟩⟩
  · exfalso; omega
  · exfalso; omega
  · exfalso; omega
  · exfalso; omega
  · exfalso; omega
  · exfalso; omega
  · exact ⟨a0_0, a0_1, a1_0, a2_0, a2_1, a3_0, a4_0, a5_0, h.2⟩
theorem fOwes_ok {K1 W1 S1 m1 K2 W2 S2 m2 old K3 V3 S3 N3 pl : Int} (h : fOwes K1 W1 S1 m1 K2 W2 S2 m2 old K3 V3 S3 N3 0 pl) : K1 = 1 ∧ W1 = -1 ∧ m1 ≠ -1 ∧ K2 = 1 ∧ W2 = -1 ∧ m2 ≠ -1 ∧ m1 ≠ m2 ∧ old = 0 ∧ K3 = 2 ∧ 1 ≤ V3 ∧ V3 ≤ 40 ∧ pl = N3 := by
  unfold fOwes at h
  rcases h with h | ⟨a0_0, a0_1, h | ⟨a1_0, h | ⟨a2_0, a2_1, h | ⟨a3_0, h | ⟨a4_0, h | ⟨a5_0, h | h | ⟨a6_0, a6_1, a6_2, h⟩⟩⟩⟩⟩⟩⟩
  · exfalso; omega
  · exfalso; omega
  · exfalso; omega
  · exfalso; omega
  · exfalso; omega
  · exfalso; omega
  · exfalso; omega
  · exfalso; omega
  · exact ⟨a0_0, a0_1, a1_0, a2_0, a2_1, a3_0, a4_0, a5_0, a6_0, a6_1, a6_2, h.2⟩
theorem fRoom_ok {st told K1 V1 S1 N1 pl : Int} (h : fRoom st told K1 V1 S1 N1 0 pl) : told = 0 ∧ K1 = 2 ∧ 1 ≤ V1 ∧ V1 ≤ 200 ∧ pl = N1 := by
  unfold fRoom at h
  rcases h with h | ⟨a0_0, h | h | ⟨a1_0, a1_1, a1_2, h⟩⟩
  · exfalso; omega
  · exfalso; omega
  · exfalso; omega
  · exact ⟨a0_0, a1_0, a1_1, a1_2, h.2⟩
theorem fFaint_ok {st told K1 V1 S1 N1 pl : Int} (h : fFaint st told K1 V1 S1 N1 0 pl) : told = 0 ∧ K1 = 2 ∧ 0 ≤ V1 ∧ V1 ≤ 60 ∧ pl = N1 := by
  unfold fFaint at h
  rcases h with h | ⟨a0_0, h | h | ⟨a1_0, a1_1, a1_2, h⟩⟩
  · exfalso; omega
  · exfalso; omega
  · exfalso; omega
  · exact ⟨a0_0, a1_0, a1_1, a1_2, h.2⟩
theorem fKin_pr {K1 W1 S1 m1 K2 W2 S2 m2 old p3 p2 k pl : Int} (h : fPair K1 W1 S1 m1 K2 W2 S2 m2 p2 k pl) (h0 : ¬ (k = 0)) : fKin K1 W1 S1 m1 K2 W2 S2 m2 old p3 k pl := by
  unfold fPair at h
  unfold fKin
  rcases h with h | ⟨a0_0, a0_1, h | ⟨a1_0, h | ⟨a2_0, a2_1, h | ⟨a3_0, h | ⟨a4_0, h⟩⟩⟩⟩⟩
  · exact Or.inl h
  · exact Or.inr (⟨a0_0, a0_1, Or.inl h⟩)
  · exact Or.inr (⟨a0_0, a0_1, Or.inr (⟨a1_0, Or.inl h⟩)⟩)
  · exact Or.inr (⟨a0_0, a0_1, Or.inr (⟨a1_0, Or.inr (⟨a2_0, a2_1, Or.inl h⟩)⟩)⟩)
  · exact Or.inr (⟨a0_0, a0_1, Or.inr (⟨a1_0, Or.inr (⟨a2_0, a2_1, Or.inr (⟨a3_0, Or.inl h⟩)⟩)⟩)⟩)
  · exact absurd h.1 h0
theorem fOwes_pr {K1 W1 S1 m1 K2 W2 S2 m2 old K3 V3 S3 N3 p2 k pl : Int} (h : fPair K1 W1 S1 m1 K2 W2 S2 m2 p2 k pl) (h0 : ¬ (k = 0)) : fOwes K1 W1 S1 m1 K2 W2 S2 m2 old K3 V3 S3 N3 k pl := by
  unfold fPair at h
  unfold fOwes
  rcases h with h | ⟨a0_0, a0_1, h | ⟨a1_0, h | ⟨a2_0, a2_1, h | ⟨a3_0, h | ⟨a4_0, h⟩⟩⟩⟩⟩
  · exact Or.inl h
  · exact Or.inr (⟨a0_0, a0_1, Or.inl h⟩)
  · exact Or.inr (⟨a0_0, a0_1, Or.inr (⟨a1_0, Or.inl h⟩)⟩)
  · exact Or.inr (⟨a0_0, a0_1, Or.inr (⟨a1_0, Or.inr (⟨a2_0, a2_1, Or.inl h⟩)⟩)⟩)
  · exact Or.inr (⟨a0_0, a0_1, Or.inr (⟨a1_0, Or.inr (⟨a2_0, a2_1, Or.inr (⟨a3_0, Or.inl h⟩)⟩)⟩)⟩)
  · exact absurd h.1 h0
