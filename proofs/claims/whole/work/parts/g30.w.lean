abbrev WX14_init : List Nat := [1794, 1795, 1797, 1798, 1799, 1801, 1802, 1803, 1804, 1805, 1808, 1810, 1811, 1812, 1814, 1815, 1817, 1818, 1819, 1821, 1822, 1823, 1824, 1825, 1827, 1828, 1829, 1830, 1831, 1832, 1833, 1834, 1837, 1838, 1839, 1840, 1841, 1843, 1844, 1845, 1846, 1847]
set_option maxHeartbeats 4000000 in
set_option maxRecDepth 100000 in
theorem wfX14_init_b333 {h0 h : pm_H} (K0 : pw_F WX14_init h0 h) {s0 : Nat} {s1 : Nat}  {r : pm_H} (hf : fX14_init_b333 h s0 s1 = some r) : pw_F WX14_init h0 r := by
  unfold fX14_init_b333 at hf
  obtain ⟨k42, hf⟩ := pm_if hf
  have hf := Option.some.inj hf
  subst hf
  exact (pw_sR K0 rfl k42 (by decide))
set_option maxHeartbeats 4000000 in
set_option maxRecDepth 100000 in
theorem wfX14_init_b325 {h0 h : pm_H} (K0 : pw_F WX14_init h0 h) {x0 : Nat} {s0 : Nat} {s1 : Nat}  {r : pm_H} (hf : fX14_init_b325 h x0 s0 s1 = some r) : pw_F WX14_init h0 r := by
  unfold fX14_init_b325 at hf
  obtain ⟨k41, hf⟩ := pm_if hf
  exact wfX14_init_b333 (pw_new (pw_sR K0 rfl k41 (by decide)))  hf
set_option maxHeartbeats 4000000 in
set_option maxRecDepth 100000 in
theorem wfX14_init_b317 {h0 h : pm_H} (K0 : pw_F WX14_init h0 h) {x0 : Nat} {s0 : Nat} {s1 : Nat}  {r : pm_H} (hf : fX14_init_b317 h x0 s0 s1 = some r) : pw_F WX14_init h0 r := by
  unfold fX14_init_b317 at hf
  obtain ⟨k40, hf⟩ := pm_if hf
  exact wfX14_init_b325 (pw_new (pw_sR K0 rfl k40 (by decide)))  hf
set_option maxHeartbeats 4000000 in
set_option maxRecDepth 100000 in
theorem wfX14_init_b309 {h0 h : pm_H} (K0 : pw_F WX14_init h0 h) {x0 : Nat} {s0 : Nat} {s1 : Nat}  {r : pm_H} (hf : fX14_init_b309 h x0 s0 s1 = some r) : pw_F WX14_init h0 r := by
  unfold fX14_init_b309 at hf
  obtain ⟨k39, hf⟩ := pm_if hf
  exact wfX14_init_b317 (pw_new (pw_sR K0 rfl k39 (by decide)))  hf
set_option maxHeartbeats 4000000 in
set_option maxRecDepth 100000 in
theorem wfX14_init_b301 {h0 h : pm_H} (K0 : pw_F WX14_init h0 h) {x0 : Nat} {s0 : Nat} {s1 : Nat}  {r : pm_H} (hf : fX14_init_b301 h x0 s0 s1 = some r) : pw_F WX14_init h0 r := by
  unfold fX14_init_b301 at hf
  obtain ⟨k38, hf⟩ := pm_if hf
  exact wfX14_init_b309 (pw_new (pw_sR K0 rfl k38 (by decide)))  hf
set_option maxHeartbeats 4000000 in
set_option maxRecDepth 100000 in
theorem wfX14_init_b293 {h0 h : pm_H} (K0 : pw_F WX14_init h0 h) {x0 : Nat} {s0 : Nat} {s1 : Nat}  {r : pm_H} (hf : fX14_init_b293 h x0 s0 s1 = some r) : pw_F WX14_init h0 r := by
  unfold fX14_init_b293 at hf
  obtain ⟨k37, hf⟩ := pm_if hf
  exact wfX14_init_b301 (pw_new (pw_sR K0 rfl k37 (by decide)))  hf
set_option maxHeartbeats 4000000 in
set_option maxRecDepth 100000 in
theorem wfX14_init_b285 {h0 h : pm_H} (K0 : pw_F WX14_init h0 h) {x0 : Nat} {s0 : Nat} {s1 : Nat}  {r : pm_H} (hf : fX14_init_b285 h x0 s0 s1 = some r) : pw_F WX14_init h0 r := by
  unfold fX14_init_b285 at hf
  obtain ⟨k36, hf⟩ := pm_if hf
  exact wfX14_init_b293 (pw_new (pw_sR K0 rfl k36 (by decide)))  hf
set_option maxHeartbeats 4000000 in
set_option maxRecDepth 100000 in
theorem wfX14_init_b277 {h0 h : pm_H} (K0 : pw_F WX14_init h0 h) {x0 : Nat} {s0 : Nat} {s1 : Nat}  {r : pm_H} (hf : fX14_init_b277 h x0 s0 s1 = some r) : pw_F WX14_init h0 r := by
  unfold fX14_init_b277 at hf
  obtain ⟨k35, hf⟩ := pm_if hf
  exact wfX14_init_b285 (pw_new (pw_sR K0 rfl k35 (by decide)))  hf
set_option maxHeartbeats 4000000 in
set_option maxRecDepth 100000 in
theorem wfX14_init_b269 {h0 h : pm_H} (K0 : pw_F WX14_init h0 h) {x0 : Nat} {s0 : Nat} {s1 : Nat}  {r : pm_H} (hf : fX14_init_b269 h x0 s0 s1 = some r) : pw_F WX14_init h0 r := by
  unfold fX14_init_b269 at hf
  obtain ⟨k34, hf⟩ := pm_if hf
  exact wfX14_init_b277 (pw_new (pw_sR K0 rfl k34 (by decide)))  hf
set_option maxHeartbeats 4000000 in
set_option maxRecDepth 100000 in
theorem wfX14_init_b261 {h0 h : pm_H} (K0 : pw_F WX14_init h0 h) {x0 : Nat} {s0 : Nat} {s1 : Nat}  {r : pm_H} (hf : fX14_init_b261 h x0 s0 s1 = some r) : pw_F WX14_init h0 r := by
  unfold fX14_init_b261 at hf
  obtain ⟨k33, hf⟩ := pm_if hf
  exact wfX14_init_b269 (pw_new (pw_sR K0 rfl k33 (by decide)))  hf
set_option maxHeartbeats 4000000 in
set_option maxRecDepth 100000 in
theorem wfX14_init_b246 {h0 h : pm_H} (K0 : pw_F WX14_init h0 h) {x0 : Nat} {s0 : Nat} {s1 : Nat}  {r : pm_H} (hf : fX14_init_b246 h x0 s0 s1 = some r) : pw_F WX14_init h0 r := by
  unfold fX14_init_b246 at hf
  obtain ⟨k31, hf⟩ := pm_if hf
  obtain ⟨k32, hf⟩ := pm_if hf
  have k32b := (congrFun (pkR rfl) x0).symm.trans k32
  exact wfX14_init_b261 (pw_new (pw_sL (pw_sR K0 rfl k31 (by decide)) (pkR rfl) k32b (by decide)))  hf
set_option maxHeartbeats 4000000 in
set_option maxRecDepth 100000 in
theorem wfX14_init_b238 {h0 h : pm_H} (K0 : pw_F WX14_init h0 h) {x0 : Nat} {s0 : Nat} {s1 : Nat}  {r : pm_H} (hf : fX14_init_b238 h x0 s0 s1 = some r) : pw_F WX14_init h0 r := by
  unfold fX14_init_b238 at hf
  obtain ⟨k30, hf⟩ := pm_if hf
  exact wfX14_init_b246 (pw_new (pw_sR K0 rfl k30 (by decide)))  hf
set_option maxHeartbeats 4000000 in
set_option maxRecDepth 100000 in
theorem wfX14_init_b230 {h0 h : pm_H} (K0 : pw_F WX14_init h0 h) {x0 : Nat} {s0 : Nat} {s1 : Nat}  {r : pm_H} (hf : fX14_init_b230 h x0 s0 s1 = some r) : pw_F WX14_init h0 r := by
  unfold fX14_init_b230 at hf
  obtain ⟨k29, hf⟩ := pm_if hf
  exact wfX14_init_b238 (pw_new (pw_sR K0 rfl k29 (by decide)))  hf
set_option maxHeartbeats 4000000 in
set_option maxRecDepth 100000 in
theorem wfX14_init_b222 {h0 h : pm_H} (K0 : pw_F WX14_init h0 h) {x0 : Nat} {s0 : Nat} {s1 : Nat}  {r : pm_H} (hf : fX14_init_b222 h x0 s0 s1 = some r) : pw_F WX14_init h0 r := by
  unfold fX14_init_b222 at hf
  obtain ⟨k28, hf⟩ := pm_if hf
  exact wfX14_init_b230 (pw_new (pw_sR K0 rfl k28 (by decide)))  hf
set_option maxHeartbeats 4000000 in
set_option maxRecDepth 100000 in
theorem wfX14_init_b214 {h0 h : pm_H} (K0 : pw_F WX14_init h0 h) {x0 : Nat} {s0 : Nat} {s1 : Nat}  {r : pm_H} (hf : fX14_init_b214 h x0 s0 s1 = some r) : pw_F WX14_init h0 r := by
  unfold fX14_init_b214 at hf
  obtain ⟨k27, hf⟩ := pm_if hf
  exact wfX14_init_b222 (pw_new (pw_sR K0 rfl k27 (by decide)))  hf
set_option maxHeartbeats 4000000 in
set_option maxRecDepth 100000 in
theorem wfX14_init_b206 {h0 h : pm_H} (K0 : pw_F WX14_init h0 h) {x0 : Nat} {s0 : Nat} {s1 : Nat}  {r : pm_H} (hf : fX14_init_b206 h x0 s0 s1 = some r) : pw_F WX14_init h0 r := by
  unfold fX14_init_b206 at hf
  obtain ⟨k26, hf⟩ := pm_if hf
  exact wfX14_init_b214 (pw_new (pw_sR K0 rfl k26 (by decide)))  hf
set_option maxHeartbeats 4000000 in
set_option maxRecDepth 100000 in
theorem wfX14_init_b198 {h0 h : pm_H} (K0 : pw_F WX14_init h0 h) {x0 : Nat} {s0 : Nat} {s1 : Nat}  {r : pm_H} (hf : fX14_init_b198 h x0 s0 s1 = some r) : pw_F WX14_init h0 r := by
  unfold fX14_init_b198 at hf
  obtain ⟨k25, hf⟩ := pm_if hf
  exact wfX14_init_b206 (pw_new (pw_sR K0 rfl k25 (by decide)))  hf
set_option maxHeartbeats 4000000 in
set_option maxRecDepth 100000 in
theorem wfX14_init_b183 {h0 h : pm_H} (K0 : pw_F WX14_init h0 h) {x0 : Nat} {s0 : Nat} {s1 : Nat}  {r : pm_H} (hf : fX14_init_b183 h x0 s0 s1 = some r) : pw_F WX14_init h0 r := by
  unfold fX14_init_b183 at hf
  obtain ⟨k23, hf⟩ := pm_if hf
  obtain ⟨k24, hf⟩ := pm_if hf
  have k24b := (congrFun (pkR rfl) x0).symm.trans k24
  exact wfX14_init_b198 (pw_new (pw_sL (pw_sR K0 rfl k23 (by decide)) (pkR rfl) k24b (by decide)))  hf
set_option maxHeartbeats 4000000 in
set_option maxRecDepth 100000 in
theorem wfX14_init_b175 {h0 h : pm_H} (K0 : pw_F WX14_init h0 h) {x0 : Nat} {s0 : Nat} {s1 : Nat}  {r : pm_H} (hf : fX14_init_b175 h x0 s0 s1 = some r) : pw_F WX14_init h0 r := by
  unfold fX14_init_b175 at hf
  obtain ⟨k22, hf⟩ := pm_if hf
  exact wfX14_init_b183 (pw_new (pw_sR K0 rfl k22 (by decide)))  hf
set_option maxHeartbeats 4000000 in
set_option maxRecDepth 100000 in
theorem wfX14_init_b167 {h0 h : pm_H} (K0 : pw_F WX14_init h0 h) {x0 : Nat} {s0 : Nat} {s1 : Nat}  {r : pm_H} (hf : fX14_init_b167 h x0 s0 s1 = some r) : pw_F WX14_init h0 r := by
  unfold fX14_init_b167 at hf
  obtain ⟨k21, hf⟩ := pm_if hf
  exact wfX14_init_b175 (pw_new (pw_sR K0 rfl k21 (by decide)))  hf
set_option maxHeartbeats 4000000 in
set_option maxRecDepth 100000 in
theorem wfX14_init_b159 {h0 h : pm_H} (K0 : pw_F WX14_init h0 h) {x0 : Nat} {s0 : Nat} {s1 : Nat}  {r : pm_H} (hf : fX14_init_b159 h x0 s0 s1 = some r) : pw_F WX14_init h0 r := by
  unfold fX14_init_b159 at hf
  obtain ⟨k20, hf⟩ := pm_if hf
  exact wfX14_init_b167 (pw_new (pw_sR K0 rfl k20 (by decide)))  hf
set_option maxHeartbeats 4000000 in
set_option maxRecDepth 100000 in
theorem wfX14_init_b151 {h0 h : pm_H} (K0 : pw_F WX14_init h0 h) {x0 : Nat} {s0 : Nat} {s1 : Nat}  {r : pm_H} (hf : fX14_init_b151 h x0 s0 s1 = some r) : pw_F WX14_init h0 r := by
  unfold fX14_init_b151 at hf
  obtain ⟨k19, hf⟩ := pm_if hf
  exact wfX14_init_b159 (pw_new (pw_sR K0 rfl k19 (by decide)))  hf
set_option maxHeartbeats 4000000 in
set_option maxRecDepth 100000 in
theorem wfX14_init_b143 {h0 h : pm_H} (K0 : pw_F WX14_init h0 h) {x0 : Nat} {s0 : Nat} {s1 : Nat}  {r : pm_H} (hf : fX14_init_b143 h x0 s0 s1 = some r) : pw_F WX14_init h0 r := by
  unfold fX14_init_b143 at hf
  obtain ⟨k18, hf⟩ := pm_if hf
  exact wfX14_init_b151 (pw_new (pw_sR K0 rfl k18 (by decide)))  hf
set_option maxHeartbeats 4000000 in
set_option maxRecDepth 100000 in
theorem wfX14_init_b135 {h0 h : pm_H} (K0 : pw_F WX14_init h0 h) {x0 : Nat} {s0 : Nat} {s1 : Nat}  {r : pm_H} (hf : fX14_init_b135 h x0 s0 s1 = some r) : pw_F WX14_init h0 r := by
  unfold fX14_init_b135 at hf
  obtain ⟨k17, hf⟩ := pm_if hf
  exact wfX14_init_b143 (pw_new (pw_sR K0 rfl k17 (by decide)))  hf
set_option maxHeartbeats 4000000 in
set_option maxRecDepth 100000 in
theorem wfX14_init_b127 {h0 h : pm_H} (K0 : pw_F WX14_init h0 h) {x0 : Nat} {s0 : Nat} {s1 : Nat}  {r : pm_H} (hf : fX14_init_b127 h x0 s0 s1 = some r) : pw_F WX14_init h0 r := by
  unfold fX14_init_b127 at hf
  obtain ⟨k16, hf⟩ := pm_if hf
  exact wfX14_init_b135 (pw_new (pw_sR K0 rfl k16 (by decide)))  hf
set_option maxHeartbeats 4000000 in
set_option maxRecDepth 100000 in
theorem wfX14_init_b119 {h0 h : pm_H} (K0 : pw_F WX14_init h0 h) {x0 : Nat} {s0 : Nat} {s1 : Nat}  {r : pm_H} (hf : fX14_init_b119 h x0 s0 s1 = some r) : pw_F WX14_init h0 r := by
  unfold fX14_init_b119 at hf
  obtain ⟨k15, hf⟩ := pm_if hf
  exact wfX14_init_b127 (pw_new (pw_sR K0 rfl k15 (by decide)))  hf
set_option maxHeartbeats 4000000 in
set_option maxRecDepth 100000 in
theorem wfX14_init_b111 {h0 h : pm_H} (K0 : pw_F WX14_init h0 h) {x0 : Nat} {s0 : Nat} {s1 : Nat}  {r : pm_H} (hf : fX14_init_b111 h x0 s0 s1 = some r) : pw_F WX14_init h0 r := by
  unfold fX14_init_b111 at hf
  obtain ⟨k14, hf⟩ := pm_if hf
  exact wfX14_init_b119 (pw_new (pw_sR K0 rfl k14 (by decide)))  hf
set_option maxHeartbeats 4000000 in
set_option maxRecDepth 100000 in
theorem wfX14_init_b103 {h0 h : pm_H} (K0 : pw_F WX14_init h0 h) {x0 : Nat} {s0 : Nat} {s1 : Nat}  {r : pm_H} (hf : fX14_init_b103 h x0 s0 s1 = some r) : pw_F WX14_init h0 r := by
  unfold fX14_init_b103 at hf
  obtain ⟨k13, hf⟩ := pm_if hf
  exact wfX14_init_b111 (pw_new (pw_sR K0 rfl k13 (by decide)))  hf
set_option maxHeartbeats 4000000 in
set_option maxRecDepth 100000 in
theorem wfX14_init_b95 {h0 h : pm_H} (K0 : pw_F WX14_init h0 h) {x0 : Nat} {s0 : Nat} {s1 : Nat}  {r : pm_H} (hf : fX14_init_b95 h x0 s0 s1 = some r) : pw_F WX14_init h0 r := by
  unfold fX14_init_b95 at hf
  obtain ⟨k12, hf⟩ := pm_if hf
  exact wfX14_init_b103 (pw_new (pw_sR K0 rfl k12 (by decide)))  hf
set_option maxHeartbeats 4000000 in
set_option maxRecDepth 100000 in
theorem wfX14_init_b87 {h0 h : pm_H} (K0 : pw_F WX14_init h0 h) {x0 : Nat} {s0 : Nat} {s1 : Nat}  {r : pm_H} (hf : fX14_init_b87 h x0 s0 s1 = some r) : pw_F WX14_init h0 r := by
  unfold fX14_init_b87 at hf
  obtain ⟨k11, hf⟩ := pm_if hf
  exact wfX14_init_b95 (pw_new (pw_sR K0 rfl k11 (by decide)))  hf
set_option maxHeartbeats 4000000 in
set_option maxRecDepth 100000 in
theorem wfX14_init_b79 {h0 h : pm_H} (K0 : pw_F WX14_init h0 h) {x0 : Nat} {s0 : Nat} {s1 : Nat}  {r : pm_H} (hf : fX14_init_b79 h x0 s0 s1 = some r) : pw_F WX14_init h0 r := by
  unfold fX14_init_b79 at hf
  obtain ⟨k10, hf⟩ := pm_if hf
  exact wfX14_init_b87 (pw_new (pw_sR K0 rfl k10 (by decide)))  hf
set_option maxHeartbeats 4000000 in
set_option maxRecDepth 100000 in
theorem wfX14_init_b71 {h0 h : pm_H} (K0 : pw_F WX14_init h0 h) {x0 : Nat} {s0 : Nat} {s1 : Nat}  {r : pm_H} (hf : fX14_init_b71 h x0 s0 s1 = some r) : pw_F WX14_init h0 r := by
  unfold fX14_init_b71 at hf
  obtain ⟨k9, hf⟩ := pm_if hf
  exact wfX14_init_b79 (pw_new (pw_sR K0 rfl k9 (by decide)))  hf
set_option maxHeartbeats 4000000 in
set_option maxRecDepth 100000 in
theorem wfX14_init_b63 {h0 h : pm_H} (K0 : pw_F WX14_init h0 h) {x0 : Nat} {s0 : Nat} {s1 : Nat}  {r : pm_H} (hf : fX14_init_b63 h x0 s0 s1 = some r) : pw_F WX14_init h0 r := by
  unfold fX14_init_b63 at hf
  obtain ⟨k8, hf⟩ := pm_if hf
  exact wfX14_init_b71 (pw_new (pw_sR K0 rfl k8 (by decide)))  hf
set_option maxHeartbeats 4000000 in
set_option maxRecDepth 100000 in
theorem wfX14_init_b55 {h0 h : pm_H} (K0 : pw_F WX14_init h0 h) {x0 : Nat} {s0 : Nat} {s1 : Nat}  {r : pm_H} (hf : fX14_init_b55 h x0 s0 s1 = some r) : pw_F WX14_init h0 r := by
  unfold fX14_init_b55 at hf
  obtain ⟨k7, hf⟩ := pm_if hf
  exact wfX14_init_b63 (pw_new (pw_sR K0 rfl k7 (by decide)))  hf
set_option maxHeartbeats 4000000 in
set_option maxRecDepth 100000 in
theorem wfX14_init_b47 {h0 h : pm_H} (K0 : pw_F WX14_init h0 h) {x0 : Nat} {s0 : Nat} {s1 : Nat}  {r : pm_H} (hf : fX14_init_b47 h x0 s0 s1 = some r) : pw_F WX14_init h0 r := by
  unfold fX14_init_b47 at hf
  obtain ⟨k6, hf⟩ := pm_if hf
  exact wfX14_init_b55 (pw_new (pw_sR K0 rfl k6 (by decide)))  hf
set_option maxHeartbeats 4000000 in
set_option maxRecDepth 100000 in
theorem wfX14_init_b39 {h0 h : pm_H} (K0 : pw_F WX14_init h0 h) {x0 : Nat} {s0 : Nat} {s1 : Nat}  {r : pm_H} (hf : fX14_init_b39 h x0 s0 s1 = some r) : pw_F WX14_init h0 r := by
  unfold fX14_init_b39 at hf
  obtain ⟨k5, hf⟩ := pm_if hf
  exact wfX14_init_b47 (pw_new (pw_sR K0 rfl k5 (by decide)))  hf
set_option maxHeartbeats 4000000 in
set_option maxRecDepth 100000 in
theorem wfX14_init_b30 {h0 h : pm_H} (K0 : pw_F WX14_init h0 h) {x0 : Nat} {s0 : Nat} {s1 : Nat}  {r : pm_H} (hf : fX14_init_b30 h x0 s0 s1 = some r) : pw_F WX14_init h0 r := by
  unfold fX14_init_b30 at hf
  obtain ⟨k4, hf⟩ := pm_if hf
  exact wfX14_init_b39 (pw_new (pw_sR K0 rfl k4 (by decide)))  hf
set_option maxHeartbeats 4000000 in
set_option maxRecDepth 100000 in
theorem wfX14_init_b22 {h0 h : pm_H} (K0 : pw_F WX14_init h0 h) {x0 : Nat} {s0 : Nat} {s1 : Nat}  {r : pm_H} (hf : fX14_init_b22 h x0 s0 s1 = some r) : pw_F WX14_init h0 r := by
  unfold fX14_init_b22 at hf
  obtain ⟨k3, hf⟩ := pm_if hf
  exact wfX14_init_b30 (pw_new (pw_sR K0 rfl k3 (by decide)))  hf
set_option maxHeartbeats 4000000 in
set_option maxRecDepth 100000 in
theorem wfX14_init_b9 {h0 h : pm_H} (K0 : pw_F WX14_init h0 h) {x0 : Nat} {s0 : Nat} {s1 : Nat}  {r : pm_H} (hf : fX14_init_b9 h x0 s0 s1 = some r) : pw_F WX14_init h0 r := by
  unfold fX14_init_b9 at hf
  obtain ⟨k1, hf⟩ := pm_if hf
  obtain ⟨k2, hf⟩ := pm_if hf
  have k2b := (congrFun (pkR rfl) x0).symm.trans k2
  exact wfX14_init_b22 (pw_new (pw_sI (pw_sR K0 rfl k1 (by decide)) (pkR rfl) k2b (by decide)))  hf
set_option maxHeartbeats 4000000 in
set_option maxRecDepth 100000 in
theorem wfX14_init_b0 {h0 h : pm_H} (K0 : pw_F WX14_init h0 h) {x0 : Nat}  {r : pm_H} (hf : fX14_init_b0 h x0 = some r) : pw_F WX14_init h0 r := by
  unfold fX14_init_b0 at hf
  exact wfX14_init_b9 (pw_new K0)  hf
set_option maxHeartbeats 4000000 in
set_option maxRecDepth 100000 in
theorem wfX14_init {h0 h : pm_H} (K0 : pw_F WX14_init h0 h) {a0 : Nat}  {r : pm_H} (hf : fX14_init h a0 = some r) : pw_F WX14_init h0 r := by
  unfold fX14_init at hf
  exact wfX14_init_b0 K0  hf
abbrev WX16_takesImports : List Nat := [2084, 4352]
set_option maxHeartbeats 4000000 in
set_option maxRecDepth 100000 in
theorem wlX16_takesImports {h0 : pm_H} {r : pm_H} : ∀ n : Nat, (∀ (x0 : Nat) (x1 : Int32) (x2 : Int32) (h : pm_H), pw_F WX16_takesImports h0 h → pm_iter sX16_takesImports n (.inl (x0, x1, x2, h)) = some r → pw_F WX16_takesImports h0 r) ∧ (∀ (x0 : Nat) (x1 : Int32) (x2 : Int32) (s0 : Nat) (h : pm_H), pw_F WX16_takesImports h0 h → pm_iter sX16_takesImports n (.inr (.inl (x0, x1, x2, s0, h))) = some r → pw_F WX16_takesImports h0 r) ∧ (∀ (x0 : Nat) (x1 : Int32) (x2 : Int32) (x3 : Nat) (x4 : Int32) (h : pm_H), pw_F WX16_takesImports h0 h → pm_iter sX16_takesImports n (.inr (.inr (x0, x1, x2, x3, x4, h))) = some r → pw_F WX16_takesImports h0 r) := by
  intro n
  induction n with
  | zero => exact ⟨fun _ _ _ _ _ hf => (by cases hf), fun _ _ _ _ _ _ hf => (by cases hf), fun _ _ _ _ _ _ _ hf => (by cases hf)⟩
  | succ n ih =>
    refine ⟨fun x0 x1 x2 h K0 hf => ?_, ?_⟩
    · obtain ⟨y, hf, hi⟩ := pm_iter_s hf
      have hf : tX16_takesImports_0 x0 x1 x2 h = some y := hf
      unfold tX16_takesImports_0 at hf
      cases hf
      exact ih.2.1 x0 x1 x2 (pm_sz h) (pm_new h 34 4) (pw_new K0)  hi
    refine ⟨fun x0 x1 x2 s0 h K0 hf => ?_, ?_⟩
    · obtain ⟨y, hf, hi⟩ := pm_iter_s hf
      have hf : tX16_takesImports_3 x0 x1 x2 s0 h = some y := hf
      unfold tX16_takesImports_3 at hf
      obtain ⟨k1, hf⟩ := pm_if hf
      obtain ⟨u2, hf⟩ := pm_if hf
      obtain ⟨u3, hf⟩ := pm_if hf
      obtain ⟨u4, hf⟩ := pm_if hf
      obtain ⟨u5, hf⟩ := pm_if hf
      cases hf
      exact ih.2.2 x0 x1 x2 s0 0 (pm_setI (pm_setI (pm_setI (pm_setI h s0 ((0 : Int32).toNatClampNeg) 0) s0 ((1 : Int32).toNatClampNeg) 0) s0 ((2 : Int32).toNatClampNeg) 0) s0 ((3 : Int32).toNatClampNeg) 0) (pw_aI (pw_aI (pw_aI (pw_aI K0 rfl k1 (by decide) (by decide)) (pkI rfl) k1 (by decide) (by decide)) (pkI (pkI rfl)) k1 (by decide) (by decide)) (pkI (pkI (pkI rfl))) k1 (by decide) (by decide))  hi
    refine fun x0 x1 x2 x3 x4 h K0 hf => ?_
    obtain ⟨y, hf, hi⟩ := pm_iter_s hf
    have hf : tX16_takesImports_23 x0 x1 x2 x3 x4 h = some y := hf
    unfold tX16_takesImports_23 at hf
    obtain ⟨k6, hf⟩ := pm_if hf
    obtain ⟨v7, e8, hf⟩ := pm_bd hf
    obtain ⟨k9, hf⟩ := pm_if hf
    by_cases c10 : (pm_I h v7 8) ≤ x4
    · have hf := pm_it hf c10
      have hf := Option.some.inj hf
      subst hf
      have hi := Option.some.inj (show some _ = some r from hi)
      subst hi
      exact K0
    · have hf := pm_ie hf c10
      obtain ⟨v11, e12, hf⟩ := pm_bd hf
      obtain ⟨k13, hf⟩ := pm_if hf
      obtain ⟨u14, hf⟩ := pm_if hf
      obtain ⟨y15, e16, hf⟩ := pm_lt hf
      obtain ⟨v17, e18, hf⟩ := pm_bd hf
      obtain ⟨k19, hf⟩ := pm_if hf
      obtain ⟨u20, hf⟩ := pm_if hf
      by_cases c21 : (pm_I h v17 x4.toNatClampNeg) = (-1)
      · have hf := pm_it hf c21
        obtain ⟨v22, e23, hf⟩ := pm_bd hf
        obtain ⟨k24, hf⟩ := pm_if hf
        obtain ⟨u25, hf⟩ := pm_if hf
        obtain ⟨v26, e27, hf⟩ := pm_bd hf
        obtain ⟨k28, hf⟩ := pm_if hf
        obtain ⟨u29, hf⟩ := pm_if hf
        obtain ⟨v30, e31, hf⟩ := pm_bd hf
        have K32 := pw_t (by decide) K0 (wfX16_newFunction (pw_rf _) e31)
        obtain ⟨k33, hf⟩ := pm_if hf
        obtain ⟨u34, hf⟩ := pm_if hf
        obtain ⟨k35, hf⟩ := pm_if hf
        obtain ⟨v36, e37, hf⟩ := pm_bd hf
        have K38 := pw_t (by decide) K32 (wfX16_has (pw_rf _) e37)
        obtain ⟨k39, hf⟩ := pm_if hf
        obtain ⟨u40, hf⟩ := pm_if hf
        obtain ⟨y41, e42, hf⟩ := pm_lt hf
        obtain ⟨u43, hf⟩ := pm_if hf
        obtain ⟨y44, e45, hf⟩ := pm_lt hf
        cases hf
        exact ih.2.2 x0 x1 x2 x3 y44 (pm_setI v36 x3 y15.toNatClampNeg y41) (pw_aI K38 rfl k39 (by decide) (by decide))  hi
      · have hf := pm_ie hf c21
        obtain ⟨v46, e47, hf⟩ := pm_bd hf
        obtain ⟨k48, hf⟩ := pm_if hf
        obtain ⟨u49, hf⟩ := pm_if hf
        obtain ⟨y50, e51, hf⟩ := pm_lt hf
        obtain ⟨k52, hf⟩ := pm_if hf
        obtain ⟨u53, hf⟩ := pm_if hf
        obtain ⟨v54, e55, hf⟩ := pm_bd hf
        have K56 := pw_t (by decide) K0 (wfX16_has (pw_rf _) e55)
        obtain ⟨k57, hf⟩ := pm_if hf
        obtain ⟨u58, hf⟩ := pm_if hf
        obtain ⟨y59, e60, hf⟩ := pm_lt hf
        obtain ⟨u61, hf⟩ := pm_if hf
        obtain ⟨y62, e63, hf⟩ := pm_lt hf
        cases hf
        exact ih.2.2 x0 x1 x2 x3 y62 (pm_setI v54 x3 y15.toNatClampNeg y59) (pw_aI K56 rfl k57 (by decide) (by decide))  hi
set_option maxHeartbeats 4000000 in
set_option maxRecDepth 100000 in
theorem wfX16_takesImports {h0 h : pm_H} (K0 : pw_F WX16_takesImports h0 h) {a0 : Nat} {p1 : Int32} {p2 : Int32}  {r : pm_H} (hf : fX16_takesImports h a0 p1 p2 = some r) : pw_F WX16_takesImports h0 r := by
  unfold fX16_takesImports at hf
  obtain ⟨n, hn⟩ := pm_lim_iter hf
  exact (wlX16_takesImports n).1 a0 p1 p2 h K0  hn
abbrev WX1_beginBlock : List Nat := [2, 128, 129, 134, 138, 4352]
set_option maxHeartbeats 4000000 in
set_option maxRecDepth 100000 in
theorem wfX1_beginBlock_b147 {h0 h : pm_H} (K0 : pw_F WX1_beginBlock h0 h) {x0 : Nat} {x1 : Int32} {x2 : Nat} {x3 : Int32} {s0 : Int32}  {r : pm_H} (hf : fX1_beginBlock_b147 h x0 x1 x2 x3 s0 = some r) : pw_F WX1_beginBlock h0 r := by
  unfold fX1_beginBlock_b147 at hf
  obtain ⟨k62, hf⟩ := pm_if hf
  obtain ⟨v63, e64, hf⟩ := pm_bd hf
  obtain ⟨k65, hf⟩ := pm_if hf
  obtain ⟨v66, e67, hf⟩ := pm_bd hf
  have K68 := pw_t (by decide) K0 (wfX1_openLabel (pw_rf _) e67)
  obtain ⟨k69, hf⟩ := pm_if hf
  obtain ⟨v70, e71, hf⟩ := pm_bd hf
  have K72 := pw_t (by decide) K68 (wfX1_putParameters (pw_rf _) e71)
  have hf := Option.some.inj hf
  subst hf
  exact K72
set_option maxHeartbeats 4000000 in
set_option maxRecDepth 100000 in
theorem wfX1_beginBlock_b105 {h0 h : pm_H} (K0 : pw_F WX1_beginBlock h0 h) {x0 : Nat} {x1 : Int32} {x2 : Nat}  {r : pm_H} (hf : fX1_beginBlock_b105 h x0 x1 x2 = some r) : pw_F WX1_beginBlock h0 r := by
  unfold fX1_beginBlock_b105 at hf
  obtain ⟨k48, hf⟩ := pm_if hf
  by_cases c49 : (pm_I h x0 0) = 0
  · have hf := pm_it hf c49
    obtain ⟨v50, e51, hf⟩ := pm_bd hf
    obtain ⟨v52, e53, hf⟩ := pm_bd hf
    obtain ⟨k54, hf⟩ := pm_if hf
    by_cases c55 : (pm_I h v52 6) = 4
    · have hf := pm_it hf c55
      obtain ⟨v56, e57, hf⟩ := pm_bd hf
      have K58 := pw_t (by decide) K0 (wfX1_emit (pw_rf _) e57)
      exact wfX1_beginBlock_b147 K58  hf
    · have hf := pm_ie hf c55
      obtain ⟨v59, e60, hf⟩ := pm_bd hf
      obtain ⟨k61, hf⟩ := pm_if hf
      exact wfX1_beginBlock_b147 K0  hf
  · have hf := pm_ie hf c49
    have hf := Option.some.inj hf
    subst hf
    exact K0
set_option maxHeartbeats 4000000 in
set_option maxRecDepth 100000 in
theorem wfX1_beginBlock_b84 {h0 h : pm_H} (K0 : pw_F WX1_beginBlock h0 h) {x0 : Nat} {x1 : Int32} {x2 : Nat}  {r : pm_H} (hf : fX1_beginBlock_b84 h x0 x1 x2 = some r) : pw_F WX1_beginBlock h0 r := by
  unfold fX1_beginBlock_b84 at hf
  obtain ⟨k39, hf⟩ := pm_if hf
  obtain ⟨v40, e41, hf⟩ := pm_bd hf
  have K42 := pw_t (by decide) K0 (wfX1_takeParameters (pw_rf _) e41)
  obtain ⟨k43, hf⟩ := pm_if hf
  by_cases c44 : (pm_I v40 x0 10) < 200
  · have hf := pm_it hf c44
    exact wfX1_beginBlock_b105 K42  hf
  · have hf := pm_ie hf c44
    obtain ⟨v45, e46, hf⟩ := pm_bd hf
    have K47 := pw_t (by decide) K42 (wfX1_fail (pw_rf _) e46)
    exact wfX1_beginBlock_b105 K47  hf
set_option maxHeartbeats 4000000 in
set_option maxRecDepth 100000 in
theorem wfX1_beginBlock_b65 {h0 h : pm_H} (K0 : pw_F WX1_beginBlock h0 h) {x0 : Nat} {x1 : Int32} {s0 : Nat}  {r : pm_H} (hf : fX1_beginBlock_b65 h x0 x1 s0 = some r) : pw_F WX1_beginBlock h0 r := by
  unfold fX1_beginBlock_b65 at hf
  obtain ⟨k31, hf⟩ := pm_if hf
  obtain ⟨v32, e33, hf⟩ := pm_bd hf
  obtain ⟨k34, hf⟩ := pm_if hf
  by_cases c35 : (pm_I h v32 6) = 4
  · have hf := pm_it hf c35
    obtain ⟨v36, e37, hf⟩ := pm_bd hf
    have K38 := pw_t (by decide) K0 (wfX1_take (pw_rf _) e37)
    exact wfX1_beginBlock_b84 K38  hf
  · have hf := pm_ie hf c35
    exact wfX1_beginBlock_b84 K0  hf
set_option maxHeartbeats 4000000 in
set_option maxRecDepth 100000 in
theorem wfX1_beginBlock_b48 {h0 h : pm_H} (K0 : pw_F WX1_beginBlock h0 h) {x0 : Nat} {x1 : Int32} {s0 : Nat}  {r : pm_H} (hf : fX1_beginBlock_b48 h x0 x1 s0 = some r) : pw_F WX1_beginBlock h0 r := by
  unfold fX1_beginBlock_b48 at hf
  exact wfX1_beginBlock_b65 K0  hf
set_option maxHeartbeats 4000000 in
set_option maxRecDepth 100000 in
theorem wfX1_beginBlock_b0 {h0 h : pm_H} (K0 : pw_F WX1_beginBlock h0 h) {x0 : Nat}  {r : pm_H} (hf : fX1_beginBlock_b0 h x0 = some r) : pw_F WX1_beginBlock h0 r := by
  unfold fX1_beginBlock_b0 at hf
  obtain ⟨k1, hf⟩ := pm_if hf
  obtain ⟨v2, e3, hf⟩ := pm_bd hf
  obtain ⟨k4, hf⟩ := pm_if hf
  obtain ⟨v5, e6, hf⟩ := pm_bd hf
  obtain ⟨k7, hf⟩ := pm_if hf
  obtain ⟨v8, e9, hf⟩ := pm_bd hf
  obtain ⟨k10, hf⟩ := pm_if hf
  by_cases c11 : (pm_L h v2 8) < ((Int32.ofNat (pm_ln h v8)).toInt64)
  · have hf := pm_it hf c11
    obtain ⟨y12, e13, hf⟩ := pm_lt hf
    by_cases c14 : y12 < 0
    · have hf := pm_it hf c14
      obtain ⟨v15, e16, hf⟩ := pm_bd hf
      obtain ⟨y17, e18, hf⟩ := pm_lt hf
      obtain ⟨y19, e20, hf⟩ := pm_lt hf
      obtain ⟨k21, hf⟩ := pm_if hf
      obtain ⟨u22, hf⟩ := pm_if hf
      obtain ⟨v23, e24, hf⟩ := pm_bd hf
      exact wfX1_beginBlock_b65 K0  hf
    · have hf := pm_ie hf c14
      obtain ⟨v25, e26, hf⟩ := pm_bd hf
      have K27 := pw_t (by decide) K0 (wfX7_shape (pw_rf _) e26)
      exact wfX1_beginBlock_b48 K27  hf
  · have hf := pm_ie hf c11
    obtain ⟨v28, e29, hf⟩ := pm_bd hf
    have K30 := pw_t (by decide) K0 (wfX1_fail (pw_rf _) e29)
    have hf := Option.some.inj hf
    subst hf
    exact K30
set_option maxHeartbeats 4000000 in
set_option maxRecDepth 100000 in
theorem wfX1_beginBlock {h0 h : pm_H} (K0 : pw_F WX1_beginBlock h0 h) {a0 : Nat}  {r : pm_H} (hf : fX1_beginBlock h a0 = some r) : pw_F WX1_beginBlock h0 r := by
  unfold fX1_beginBlock at hf
  exact wfX1_beginBlock_b0 K0  hf
abbrev WX1_callByTable : List Nat := [2, 128, 129, 134, 4352]
set_option maxHeartbeats 4000000 in
set_option maxRecDepth 100000 in
theorem wfX1_callByTable_b94 {h0 h : pm_H} (K0 : pw_F WX1_callByTable h0 h) {x0 : Nat} {s0 : Nat}  {r : pm_H} (hf : fX1_callByTable_b94 h x0 s0 = some r) : pw_F WX1_callByTable h0 r := by
  unfold fX1_callByTable_b94 at hf
  obtain ⟨k36, hf⟩ := pm_if hf
  obtain ⟨v37, e38, hf⟩ := pm_bd hf
  have K39 := pw_t (by decide) K0 (wfX1_take (pw_rf _) e38)
  obtain ⟨k40, hf⟩ := pm_if hf
  obtain ⟨v41, e42, hf⟩ := pm_bd hf
  have K43 := pw_t (by decide) K39 (wfX1_takeParameters (pw_rf _) e42)
  obtain ⟨k44, hf⟩ := pm_if hf
  obtain ⟨v45, e46, hf⟩ := pm_bd hf
  have K47 := pw_t (by decide) K43 (wfX1_putResults (pw_rf _) e46)
  obtain ⟨k48, hf⟩ := pm_if hf
  obtain ⟨v49, e50, hf⟩ := pm_bd hf
  obtain ⟨k51, hf⟩ := pm_if hf
  obtain ⟨v52, e53, hf⟩ := pm_bd hf
  obtain ⟨v54, e55, hf⟩ := pm_bd hf
  have K56 := pw_t (by decide) K47 (wfX1_emit (pw_rf _) e55)
  have hf := Option.some.inj hf
  subst hf
  exact K56
set_option maxHeartbeats 4000000 in
set_option maxRecDepth 100000 in
theorem wfX1_callByTable_b43 {h0 h : pm_H} (K0 : pw_F WX1_callByTable h0 h) {x0 : Nat} {s0 : Int32}  {r : pm_H} (hf : fX1_callByTable_b43 h x0 s0 = some r) : pw_F WX1_callByTable h0 r := by
  unfold fX1_callByTable_b43 at hf
  by_cases c15 : s0 = 0
  · have hf := pm_it hf c15
    obtain ⟨k16, hf⟩ := pm_if hf
    obtain ⟨v17, e18, hf⟩ := pm_bd hf
    have K19 := pw_t (by decide) K0 (wfX1_fail (pw_rf _) e18)
    have hf := Option.some.inj hf
    subst hf
    exact K19
  · have hf := pm_ie hf c15
    obtain ⟨k20, hf⟩ := pm_if hf
    obtain ⟨v21, e22, hf⟩ := pm_bd hf
    obtain ⟨v23, e24, hf⟩ := pm_bd hf
    obtain ⟨k25, hf⟩ := pm_if hf
    obtain ⟨k26, hf⟩ := pm_if hf
    obtain ⟨v27, e28, hf⟩ := pm_bd hf
    by_cases c29 : v27 = 112
    · have hf := pm_it hf c29
      obtain ⟨v30, e31, hf⟩ := pm_bd hf
      have K32 := pw_t (by decide) K0 (wfX7_shape (pw_rf _) e31)
      exact wfX1_callByTable_b94 K32  hf
    · have hf := pm_ie hf c29
      obtain ⟨v33, e34, hf⟩ := pm_bd hf
      have K35 := pw_t (by decide) K0 (wfX1_fail (pw_rf _) e34)
      have hf := Option.some.inj hf
      subst hf
      exact K35
set_option maxHeartbeats 4000000 in
set_option maxRecDepth 100000 in
theorem wfX1_callByTable_b42 {h0 h : pm_H} (K0 : pw_F WX1_callByTable h0 h) {x0 : Nat}  {r : pm_H} (hf : fX1_callByTable_b42 h x0 = some r) : pw_F WX1_callByTable h0 r := by
  unfold fX1_callByTable_b42 at hf
  exact wfX1_callByTable_b43 K0  hf
set_option maxHeartbeats 4000000 in
set_option maxRecDepth 100000 in
theorem wfX1_callByTable_b0 {h0 h : pm_H} (K0 : pw_F WX1_callByTable h0 h) {x0 : Nat}  {r : pm_H} (hf : fX1_callByTable_b0 h x0 = some r) : pw_F WX1_callByTable h0 r := by
  unfold fX1_callByTable_b0 at hf
  obtain ⟨k1, hf⟩ := pm_if hf
  obtain ⟨v2, e3, hf⟩ := pm_bd hf
  obtain ⟨k4, hf⟩ := pm_if hf
  obtain ⟨v5, e6, hf⟩ := pm_bd hf
  obtain ⟨k7, hf⟩ := pm_if hf
  obtain ⟨v8, e9, hf⟩ := pm_bd hf
  obtain ⟨k10, hf⟩ := pm_if hf
  by_cases c11 : ((Int32.ofNat (pm_ln h v8)).toInt64) ≤ (pm_L h v2 8)
  · have hf := pm_it hf c11
    exact wfX1_callByTable_b42 K0  hf
  · have hf := pm_ie hf c11
    obtain ⟨v12, e13, hf⟩ := pm_bd hf
    by_cases c14 : v12 = 0
    · have hf := pm_it hf c14
      exact wfX1_callByTable_b42 K0  hf
    · have hf := pm_ie hf c14
      exact wfX1_callByTable_b43 K0  hf
set_option maxHeartbeats 4000000 in
set_option maxRecDepth 100000 in
theorem wfX1_callByTable {h0 h : pm_H} (K0 : pw_F WX1_callByTable h0 h) {a0 : Nat}  {r : pm_H} (hf : fX1_callByTable h a0 = some r) : pw_F WX1_callByTable h0 r := by
  unfold fX1_callByTable at hf
  exact wfX1_callByTable_b0 K0  hf
abbrev WX1_callDirectly : List Nat := [2, 128, 129, 134, 4352]
set_option maxHeartbeats 4000000 in
set_option maxRecDepth 100000 in
theorem wfX1_callDirectly_b40 {h0 h : pm_H} (K0 : pw_F WX1_callDirectly h0 h) {x0 : Nat} {s0 : Nat}  {r : pm_H} (hf : fX1_callDirectly_b40 h x0 s0 = some r) : pw_F WX1_callDirectly h0 r := by
  unfold fX1_callDirectly_b40 at hf
  obtain ⟨k17, hf⟩ := pm_if hf
  obtain ⟨v18, e19, hf⟩ := pm_bd hf
  have K20 := pw_t (by decide) K0 (wfX1_takeParameters (pw_rf _) e19)
  obtain ⟨k21, hf⟩ := pm_if hf
  obtain ⟨v22, e23, hf⟩ := pm_bd hf
  have K24 := pw_t (by decide) K20 (wfX1_putResults (pw_rf _) e23)
  obtain ⟨k25, hf⟩ := pm_if hf
  obtain ⟨v26, e27, hf⟩ := pm_bd hf
  obtain ⟨k28, hf⟩ := pm_if hf
  obtain ⟨v29, e30, hf⟩ := pm_bd hf
  obtain ⟨v31, e32, hf⟩ := pm_bd hf
  have K33 := pw_t (by decide) K24 (wfX1_emit (pw_rf _) e32)
  have hf := Option.some.inj hf
  subst hf
  exact K33
set_option maxHeartbeats 4000000 in
set_option maxRecDepth 100000 in
theorem wfX1_callDirectly_b0 {h0 h : pm_H} (K0 : pw_F WX1_callDirectly h0 h) {x0 : Nat}  {r : pm_H} (hf : fX1_callDirectly_b0 h x0 = some r) : pw_F WX1_callDirectly h0 r := by
  unfold fX1_callDirectly_b0 at hf
  obtain ⟨k1, hf⟩ := pm_if hf
  obtain ⟨v2, e3, hf⟩ := pm_bd hf
  obtain ⟨v4, e5, hf⟩ := pm_bd hf
  obtain ⟨k6, hf⟩ := pm_if hf
  obtain ⟨k7, hf⟩ := pm_if hf
  obtain ⟨v8, e9, hf⟩ := pm_bd hf
  by_cases c10 : v8 = 0
  · have hf := pm_it hf c10
    obtain ⟨v11, e12, hf⟩ := pm_bd hf
    have K13 := pw_t (by decide) K0 (wfX1_fail (pw_rf _) e12)
    have hf := Option.some.inj hf
    subst hf
    exact K13
  · have hf := pm_ie hf c10
    obtain ⟨v14, e15, hf⟩ := pm_bd hf
    have K16 := pw_t (by decide) K0 (wfX7_shapeOfFunction (pw_rf _) e15)
    exact wfX1_callDirectly_b40 K16  hf
set_option maxHeartbeats 4000000 in
set_option maxRecDepth 100000 in
theorem wfX1_callDirectly {h0 h : pm_H} (K0 : pw_F WX1_callDirectly h0 h) {a0 : Nat}  {r : pm_H} (hf : fX1_callDirectly h a0 = some r) : pw_F WX1_callDirectly h0 r := by
  unfold fX1_callDirectly at hf
  exact wfX1_callDirectly_b0 K0  hf
abbrev WX1_makeBodies : List Nat := [0, 1, 5, 7, 8, 908, 4864]
set_option maxHeartbeats 4000000 in
set_option maxRecDepth 100000 in
theorem wlX1_makeBodies {h0 : pm_H} {r : pm_H} : ∀ n : Nat, (∀ (x0 : Nat) (h : pm_H), pw_F WX1_makeBodies h0 h → pm_iter sX1_makeBodies n (.inl (x0, h)) = some r → pw_F WX1_makeBodies h0 r) ∧ (∀ (x0 : Nat) (x1 : Int32) (s0 : Nat) (s1 : Nat) (h : pm_H), pw_F WX1_makeBodies h0 h → pm_iter sX1_makeBodies n (.inr (.inl (x0, x1, s0, s1, h))) = some r → pw_F WX1_makeBodies h0 r) ∧ (∀ (x0 : Nat) (x1 : Int32) (x2 : Int32) (h : pm_H), pw_F WX1_makeBodies h0 h → pm_iter sX1_makeBodies n (.inr (.inr (.inl (x0, x1, x2, h)))) = some r → pw_F WX1_makeBodies h0 r) ∧ (∀ (x0 : Nat) (x1 : Int32) (x2 : Int32) (x3 : Int32) (s0 : Nat) (s1 : Int32) (s2 : Nat) (h : pm_H), pw_F WX1_makeBodies h0 h → pm_iter sX1_makeBodies n (.inr (.inr (.inr (.inl (x0, x1, x2, x3, s0, s1, s2, h))))) = some r → pw_F WX1_makeBodies h0 r) ∧ (∀ (x0 : Nat) (x1 : Int32) (x2 : Int32) (x3 : Int32) (s0 : Nat) (s1 : Nat) (s2 : Nat) (s3 : Int32) (s4 : Nat) (h : pm_H), pw_F WX1_makeBodies h0 h → pm_iter sX1_makeBodies n (.inr (.inr (.inr (.inr (.inl (x0, x1, x2, x3, s0, s1, s2, s3, s4, h)))))) = some r → pw_F WX1_makeBodies h0 r) ∧ (∀ (x0 : Nat) (x1 : Int32) (x2 : Int32) (s0 : Nat) (s1 : Int32) (s2 : Nat) (h : pm_H), pw_F WX1_makeBodies h0 h → pm_iter sX1_makeBodies n (.inr (.inr (.inr (.inr (.inr (x0, x1, x2, s0, s1, s2, h)))))) = some r → pw_F WX1_makeBodies h0 r) := by
  intro n
  induction n with
  | zero => exact ⟨fun _ _ _ hf => (by cases hf), fun _ _ _ _ _ _ hf => (by cases hf), fun _ _ _ _ _ hf => (by cases hf), fun _ _ _ _ _ _ _ _ _ hf => (by cases hf), fun _ _ _ _ _ _ _ _ _ _ _ hf => (by cases hf), fun _ _ _ _ _ _ _ _ hf => (by cases hf)⟩
  | succ n ih =>
    refine ⟨fun x0 h K0 hf => ?_, ?_⟩
    · obtain ⟨y, hf, hi⟩ := pm_iter_s hf
      have hf : tX1_makeBodies_0 x0 h = some y := hf
      unfold tX1_makeBodies_0 at hf
      obtain ⟨k1, hf⟩ := pm_if hf
      obtain ⟨v2, e3, hf⟩ := pm_bd hf
      obtain ⟨k4, hf⟩ := pm_if hf
      obtain ⟨v5, e6, hf⟩ := pm_bd hf
      obtain ⟨v7, e8, hf⟩ := pm_bd hf
      obtain ⟨k9, hf⟩ := pm_if hf
      obtain ⟨y10, e11, hf⟩ := pm_lt hf
      obtain ⟨u12, hf⟩ := pm_if hf
      cases hf
      exact ih.2.1 x0 v5 (pm_sz h) v2 (pm_new h 38 y10.toNatClampNeg) (pw_new K0)  hi
    refine ⟨fun x0 x1 s0 s1 h K0 hf => ?_, ?_⟩
    · obtain ⟨y, hf, hi⟩ := pm_iter_s hf
      have hf : tX1_makeBodies_26 x0 x1 s0 s1 h = some y := hf
      unfold tX1_makeBodies_26 at hf
      obtain ⟨k13, hf⟩ := pm_if hf
      cases hf
      exact ih.2.2.1 x0 x1 0 (pm_setR h s1 12 (some s0)) (pw_sR K0 rfl k13 (by decide))  hi
    refine ⟨fun x0 x1 x2 h K0 hf => ?_, ?_⟩
    · obtain ⟨y, hf, hi⟩ := pm_iter_s hf
      have hf : tX1_makeBodies_31 x0 x1 x2 h = some y := hf
      unfold tX1_makeBodies_31 at hf
      obtain ⟨k14, hf⟩ := pm_if hf
      obtain ⟨v15, e16, hf⟩ := pm_bd hf
      obtain ⟨k17, hf⟩ := pm_if hf
      obtain ⟨v18, e19, hf⟩ := pm_bd hf
      obtain ⟨k20, hf⟩ := pm_if hf
      by_cases c21 : (Int32.ofNat (pm_ln h v18)) ≤ x2
      · have hf := pm_it hf c21
        have hf := Option.some.inj hf
        subst hf
        have hi := Option.some.inj (show some _ = some r from hi)
        subst hi
        exact K0
      · have hf := pm_ie hf c21
        obtain ⟨v22, e23, hf⟩ := pm_bd hf
        obtain ⟨v24, e25, hf⟩ := pm_bd hf
        obtain ⟨v26, e27, hf⟩ := pm_bd hf
        obtain ⟨y28, e29, hf⟩ := pm_lt hf
        cases hf
        exact ih.2.2.2.1 x0 x1 x2 y28 (pm_sz h) x2 v18 (pm_new h 0 0) (pw_new K0)  hi
    refine ⟨fun x0 x1 x2 x3 s0 s1 s2 h K0 hf => ?_, ?_⟩
    · obtain ⟨y, hf, hi⟩ := pm_iter_s hf
      have hf : tX1_makeBodies_84 x0 x1 x2 x3 s0 s1 s2 h = some y := hf
      unfold tX1_makeBodies_84 at hf
      obtain ⟨k30, hf⟩ := pm_if hf
      obtain ⟨v31, e32, hf⟩ := pm_bd hf
      obtain ⟨k33, hf⟩ := pm_if hf
      obtain ⟨v34, e35, hf⟩ := pm_bd hf
      have K36 := pw_t (by decide) K0 (wfX7_shapeOfFunction (pw_rf _) e35)
      cases hf
      exact ih.2.2.2.2.1 x0 x1 x2 x3 v34.1 s0 s0 s1 s2 v34.2 K36  hi
    refine ⟨fun x0 x1 x2 x3 s0 s1 s2 s3 s4 h K0 hf => ?_, ?_⟩
    · obtain ⟨y, hf, hi⟩ := pm_iter_s hf
      have hf : tX1_makeBodies_95 x0 x1 x2 x3 s0 s1 s2 s3 s4 h = some y := hf
      unfold tX1_makeBodies_95 at hf
      obtain ⟨v37, e38, hf⟩ := pm_bd hf
      have K39 := pw_t (by decide) K0 (wfX0_init (pw_rf _) e38)
      cases hf
      exact ih.2.2.2.2.2 x0 x1 x2 s2 s3 s4 v37 K39  hi
    refine fun x0 x1 x2 s0 s1 s2 h K0 hf => ?_
    obtain ⟨y, hf, hi⟩ := pm_iter_s hf
    have hf : tX1_makeBodies_99 x0 x1 x2 s0 s1 s2 h = some y := hf
    unfold tX1_makeBodies_99 at hf
    obtain ⟨k40, hf⟩ := pm_if hf
    obtain ⟨k41, hf⟩ := pm_if hf
    obtain ⟨u42, hf⟩ := pm_if hf
    obtain ⟨y43, e44, hf⟩ := pm_lt hf
    cases hf
    exact ih.2.2.1 x0 x1 y43 (pm_setR h s2 s1.toNatClampNeg (some s0)) (pw_aR K0 rfl k40 (by decide) (by decide))  hi
set_option maxHeartbeats 4000000 in
set_option maxRecDepth 100000 in
theorem wfX1_makeBodies {h0 h : pm_H} (K0 : pw_F WX1_makeBodies h0 h) {a0 : Nat}  {r : pm_H} (hf : fX1_makeBodies h a0 = some r) : pw_F WX1_makeBodies h0 r := by
  unfold fX1_makeBodies at hf
  obtain ⟨n, hn⟩ := pm_lim_iter hf
  exact (wlX1_makeBodies n).1 a0 h K0  hn
abbrev WX1_shapeOfLabel : List Nat := []
set_option maxHeartbeats 4000000 in
set_option maxRecDepth 100000 in
theorem wfX1_shapeOfLabel_b19 {h0 h : pm_H} (K0 : pw_F WX1_shapeOfLabel h0 h) {s0 : Nat}  {r : (Nat × pm_H)} (hf : fX1_shapeOfLabel_b19 h s0 = some r) : pw_F WX1_shapeOfLabel h0 r.2 := by
  unfold fX1_shapeOfLabel_b19 at hf
  have hf := Option.some.inj hf
  subst hf
  exact K0
set_option maxHeartbeats 4000000 in
set_option maxRecDepth 100000 in
theorem wfX1_shapeOfLabel_b0 {h0 h : pm_H} (K0 : pw_F WX1_shapeOfLabel h0 h) {x0 : Nat} {x1 : Int32}  {r : (Nat × pm_H)} (hf : fX1_shapeOfLabel_b0 h x0 x1 = some r) : pw_F WX1_shapeOfLabel h0 r.2 := by
  unfold fX1_shapeOfLabel_b0 at hf
  obtain ⟨k1, hf⟩ := pm_if hf
  obtain ⟨v2, e3, hf⟩ := pm_bd hf
  by_cases c4 : v2 < 0
  · have hf := pm_it hf c4
    by_cases c5 : v2 < (-128)
    · have hf := pm_it hf c5
      obtain ⟨v6, e7, hf⟩ := pm_bd hf
      obtain ⟨k8, hf⟩ := pm_if hf
      obtain ⟨u9, hf⟩ := pm_if hf
      obtain ⟨v10, e11, hf⟩ := pm_bd hf
      have hf := Option.some.inj hf
      subst hf
      exact K0
    · have hf := pm_ie hf c5
      obtain ⟨v12, e13, hf⟩ := pm_bd hf
      obtain ⟨y14, e15, hf⟩ := pm_lt hf
      obtain ⟨k16, hf⟩ := pm_if hf
      obtain ⟨u17, hf⟩ := pm_if hf
      obtain ⟨v18, e19, hf⟩ := pm_bd hf
      have hf := Option.some.inj hf
      subst hf
      exact K0
  · have hf := pm_ie hf c4
    obtain ⟨v20, e21, hf⟩ := pm_bd hf
    obtain ⟨k22, hf⟩ := pm_if hf
    obtain ⟨v23, e24, hf⟩ := pm_bd hf
    have K25 := pw_t (by decide) K0 (wfX7_shape (pw_rf _) e24)
    exact wfX1_shapeOfLabel_b19 K25  hf
set_option maxHeartbeats 4000000 in
set_option maxRecDepth 100000 in
theorem wfX1_shapeOfLabel {h0 h : pm_H} (K0 : pw_F WX1_shapeOfLabel h0 h) {a0 : Nat} {p1 : Int32}  {r : (Nat × pm_H)} (hf : fX1_shapeOfLabel h a0 p1 = some r) : pw_F WX1_shapeOfLabel h0 r.2 := by
  unfold fX1_shapeOfLabel at hf
  exact wfX1_shapeOfLabel_b0 K0  hf
abbrev WX1_startIsRight : List Nat := [128, 129]
set_option maxHeartbeats 4000000 in
set_option maxRecDepth 100000 in
theorem wfX1_startIsRight_b58 {h0 h : pm_H} (K0 : pw_F WX1_startIsRight h0 h) {x0 : Nat} {s0 : Nat}  {r : pm_H} (hf : fX1_startIsRight_b58 h x0 s0 = some r) : pw_F WX1_startIsRight h0 r := by
  unfold fX1_startIsRight_b58 at hf
  obtain ⟨v19, e20, hf⟩ := pm_bd hf
  by_cases c21 : v19 = 0
  · have hf := pm_it hf c21
    obtain ⟨v22, e23, hf⟩ := pm_bd hf
    by_cases c24 : v22 = 0
    · have hf := pm_it hf c24
      have hf := Option.some.inj hf
      subst hf
      exact K0
    · have hf := pm_ie hf c24
      obtain ⟨k25, hf⟩ := pm_if hf
      obtain ⟨v26, e27, hf⟩ := pm_bd hf
      have K28 := pw_t (by decide) K0 (wfX1_failSection (pw_rf _) e27)
      have hf := Option.some.inj hf
      subst hf
      exact K28
  · have hf := pm_ie hf c21
    obtain ⟨k29, hf⟩ := pm_if hf
    obtain ⟨v30, e31, hf⟩ := pm_bd hf
    have K32 := pw_t (by decide) K0 (wfX1_failSection (pw_rf _) e31)
    have hf := Option.some.inj hf
    subst hf
    exact K32
set_option maxHeartbeats 4000000 in
set_option maxRecDepth 100000 in
theorem wfX1_startIsRight_b0 {h0 h : pm_H} (K0 : pw_F WX1_startIsRight h0 h) {x0 : Nat}  {r : pm_H} (hf : fX1_startIsRight_b0 h x0 = some r) : pw_F WX1_startIsRight h0 r := by
  unfold fX1_startIsRight_b0 at hf
  obtain ⟨k1, hf⟩ := pm_if hf
  obtain ⟨v2, e3, hf⟩ := pm_bd hf
  obtain ⟨k4, hf⟩ := pm_if hf
  obtain ⟨v5, e6, hf⟩ := pm_bd hf
  obtain ⟨v7, e8, hf⟩ := pm_bd hf
  by_cases c9 : 0 ≤ v7
  · have hf := pm_it hf c9
    obtain ⟨v10, e11, hf⟩ := pm_bd hf
    by_cases c12 : v10 = 0
    · have hf := pm_it hf c12
      obtain ⟨v13, e14, hf⟩ := pm_bd hf
      have K15 := pw_t (by decide) K0 (wfX1_failSection (pw_rf _) e14)
      have hf := Option.some.inj hf
      subst hf
      exact K15
    · have hf := pm_ie hf c12
      obtain ⟨v16, e17, hf⟩ := pm_bd hf
      have K18 := pw_t (by decide) K0 (wfX7_shapeOfFunction (pw_rf _) e17)
      exact wfX1_startIsRight_b58 K18  hf
  · have hf := pm_ie hf c9
    have hf := Option.some.inj hf
    subst hf
    exact K0
set_option maxHeartbeats 4000000 in
set_option maxRecDepth 100000 in
theorem wfX1_startIsRight {h0 h : pm_H} (K0 : pw_F WX1_startIsRight h0 h) {a0 : Nat}  {r : pm_H} (hf : fX1_startIsRight h a0 = some r) : pw_F WX1_startIsRight h0 r := by
  unfold fX1_startIsRight at hf
  exact wfX1_startIsRight_b0 K0  hf
abbrev WX1_takeAllResults : List Nat := [128, 129, 134]
set_option maxHeartbeats 4000000 in
set_option maxRecDepth 100000 in
theorem wfX1_takeAllResults_b5 {h0 h : pm_H} (K0 : pw_F WX1_takeAllResults h0 h) {x0 : Nat} {x1 : Int32} {s0 : Nat}  {r : pm_H} (hf : fX1_takeAllResults_b5 h x0 x1 s0 = some r) : pw_F WX1_takeAllResults h0 r := by
  unfold fX1_takeAllResults_b5 at hf
  obtain ⟨v5, e6, hf⟩ := pm_bd hf
  obtain ⟨v7, e8, hf⟩ := pm_bd hf
  obtain ⟨k9, hf⟩ := pm_if hf
  obtain ⟨v10, e11, hf⟩ := pm_bd hf
  have K12 := pw_t (by decide) K0 (wfX1_takeTypes (pw_rf _) e11)
  obtain ⟨k13, hf⟩ := pm_if hf
  obtain ⟨v14, e15, hf⟩ := pm_bd hf
  by_cases c16 : (pm_I v10 x0 6) = v14
  · have hf := pm_it hf c16
    have hf := Option.some.inj hf
    subst hf
    exact K12
  · have hf := pm_ie hf c16
    obtain ⟨v17, e18, hf⟩ := pm_bd hf
    have K19 := pw_t (by decide) K12 (wfX1_fail (pw_rf _) e18)
    have hf := Option.some.inj hf
    subst hf
    exact K19
set_option maxHeartbeats 4000000 in
set_option maxRecDepth 100000 in
theorem wfX1_takeAllResults_b0 {h0 h : pm_H} (K0 : pw_F WX1_takeAllResults h0 h) {x0 : Nat} {x1 : Int32}  {r : pm_H} (hf : fX1_takeAllResults_b0 h x0 x1 = some r) : pw_F WX1_takeAllResults h0 r := by
  unfold fX1_takeAllResults_b0 at hf
  obtain ⟨k1, hf⟩ := pm_if hf
  obtain ⟨v2, e3, hf⟩ := pm_bd hf
  have K4 := pw_t (by decide) K0 (wfX1_shapeOfLabel (pw_rf _) e3)
  exact wfX1_takeAllResults_b5 K4  hf
set_option maxHeartbeats 4000000 in
set_option maxRecDepth 100000 in
theorem wfX1_takeAllResults {h0 h : pm_H} (K0 : pw_F WX1_takeAllResults h0 h) {a0 : Nat} {p1 : Int32}  {r : pm_H} (hf : fX1_takeAllResults h a0 p1 = some r) : pw_F WX1_takeAllResults h0 r := by
  unfold fX1_takeAllResults at hf
  exact wfX1_takeAllResults_b0 K0  hf
abbrev WX1_wantedCount : List Nat := []
set_option maxHeartbeats 4000000 in
set_option maxRecDepth 100000 in
theorem wfX1_wantedCount_b5 {h0 h : pm_H} (K0 : pw_F WX1_wantedCount h0 h) {x0 : Nat} {x1 : Int32} {s0 : Nat}  {r : (Int32 × pm_H)} (hf : fX1_wantedCount_b5 h x0 x1 s0 = some r) : pw_F WX1_wantedCount h0 r.2 := by
  unfold fX1_wantedCount_b5 at hf
  obtain ⟨k5, hf⟩ := pm_if hf
  obtain ⟨v6, e7, hf⟩ := pm_bd hf
  by_cases c8 : v6 = 0
  · have hf := pm_it hf c8
    obtain ⟨v9, e10, hf⟩ := pm_bd hf
    have hf := Option.some.inj hf
    subst hf
    exact K0
  · have hf := pm_ie hf c8
    obtain ⟨v11, e12, hf⟩ := pm_bd hf
    have hf := Option.some.inj hf
    subst hf
    exact K0
set_option maxHeartbeats 4000000 in
set_option maxRecDepth 100000 in
theorem wfX1_wantedCount_b0 {h0 h : pm_H} (K0 : pw_F WX1_wantedCount h0 h) {x0 : Nat} {x1 : Int32}  {r : (Int32 × pm_H)} (hf : fX1_wantedCount_b0 h x0 x1 = some r) : pw_F WX1_wantedCount h0 r.2 := by
  unfold fX1_wantedCount_b0 at hf
  obtain ⟨k1, hf⟩ := pm_if hf
  obtain ⟨v2, e3, hf⟩ := pm_bd hf
  have K4 := pw_t (by decide) K0 (wfX1_shapeOfLabel (pw_rf _) e3)
  exact wfX1_wantedCount_b5 K4  hf
set_option maxHeartbeats 4000000 in
set_option maxRecDepth 100000 in
theorem wfX1_wantedCount {h0 h : pm_H} (K0 : pw_F WX1_wantedCount h0 h) {a0 : Nat} {p1 : Int32}  {r : (Int32 × pm_H)} (hf : fX1_wantedCount h a0 p1 = some r) : pw_F WX1_wantedCount h0 r.2 := by
  unfold fX1_wantedCount at hf
  exact wfX1_wantedCount_b0 K0  hf
abbrev WX1_wantedFrom : List Nat := []
set_option maxHeartbeats 4000000 in
set_option maxRecDepth 100000 in
theorem wfX1_wantedFrom_b18 {h0 h : pm_H} (K0 : pw_F WX1_wantedFrom h0 h) {s0 : Nat} {s1 : Int32}  {r : (Int32 × pm_H)} (hf : fX1_wantedFrom_b18 h s0 s1 = some r) : pw_F WX1_wantedFrom h0 r.2 := by
  unfold fX1_wantedFrom_b18 at hf
  obtain ⟨v8, e9, hf⟩ := pm_bd hf
  have hf := Option.some.inj hf
  subst hf
  exact K0
set_option maxHeartbeats 4000000 in
set_option maxRecDepth 100000 in
theorem wfX1_wantedFrom_b0 {h0 h : pm_H} (K0 : pw_F WX1_wantedFrom h0 h) {x0 : Nat} {x1 : Int32}  {r : (Int32 × pm_H)} (hf : fX1_wantedFrom_b0 h x0 x1 = some r) : pw_F WX1_wantedFrom h0 r.2 := by
  unfold fX1_wantedFrom_b0 at hf
  obtain ⟨k1, hf⟩ := pm_if hf
  obtain ⟨v2, e3, hf⟩ := pm_bd hf
  by_cases c4 : v2 = 0
  · have hf := pm_it hf c4
    obtain ⟨v5, e6, hf⟩ := pm_bd hf
    have K7 := pw_t (by decide) K0 (wfX1_shapeOfLabel (pw_rf _) e6)
    exact wfX1_wantedFrom_b18 K7  hf
  · have hf := pm_ie hf c4
    have hf := Option.some.inj hf
    subst hf
    exact K0
set_option maxHeartbeats 4000000 in
set_option maxRecDepth 100000 in
theorem wfX1_wantedFrom {h0 h : pm_H} (K0 : pw_F WX1_wantedFrom h0 h) {a0 : Nat} {p1 : Int32}  {r : (Int32 × pm_H)} (hf : fX1_wantedFrom h a0 p1 = some r) : pw_F WX1_wantedFrom h0 r.2 := by
  unfold fX1_wantedFrom at hf
  exact wfX1_wantedFrom_b0 K0  hf
abbrev WX5_callByTable : List Nat := [384, 385, 386, 387, 388, 389, 390, 391, 640, 641, 643, 644, 647, 652, 653, 654, 1282, 4096, 4352, 4480]
set_option maxHeartbeats 4000000 in
set_option maxRecDepth 100000 in
theorem wfX5_callByTable_b92 {h0 h : pm_H} (K0 : pw_F WX5_callByTable h0 h) {x0 : Nat} {x5 : Int32} {x7 : Int32} {s0 : Nat} {s1 : Nat}  {r : pm_H} (hf : fX5_callByTable_b92 h x0 x5 x7 s0 s1 = some r) : pw_F WX5_callByTable h0 r := by
  unfold fX5_callByTable_b92 at hf
  obtain ⟨v38, e39, hf⟩ := pm_bd hf
  by_cases c40 : v38 = 0
  · have hf := pm_it hf c40
    obtain ⟨k41, hf⟩ := pm_if hf
    obtain ⟨v42, e43, hf⟩ := pm_bd hf
    have K44 := pw_t (by decide) K0 (wfX5_fail (pw_rf _) e43)
    have hf := Option.some.inj hf
    subst hf
    exact K44
  · have hf := pm_ie hf c40
    obtain ⟨k45, hf⟩ := pm_if hf
    obtain ⟨v46, e47, hf⟩ := pm_bd hf
    have K48 := pw_t (by decide) K0 (wfX5_enter (pw_rf _) e47)
    have hf := Option.some.inj hf
    subst hf
    exact K48
set_option maxHeartbeats 4000000 in
set_option maxRecDepth 100000 in
theorem wfX5_callByTable_b0 {h0 h : pm_H} (K0 : pw_F WX5_callByTable h0 h) {x0 : Nat} {x1 : Int32} {x2 : Int32} {x3 : Int64} {x5 : Int32}  {r : pm_H} (hf : fX5_callByTable_b0 h x0 x1 x2 x3 x5 = some r) : pw_F WX5_callByTable h0 r := by
  unfold fX5_callByTable_b0 at hf
  obtain ⟨k1, hf⟩ := pm_if hf
  obtain ⟨v2, e3, hf⟩ := pm_bd hf
  obtain ⟨k4, hf⟩ := pm_if hf
  obtain ⟨v5, e6, hf⟩ := pm_bd hf
  obtain ⟨k7, hf⟩ := pm_if hf
  obtain ⟨v8, e9, hf⟩ := pm_bd hf
  obtain ⟨v10, e11, hf⟩ := pm_bd hf
  obtain ⟨v12, e13, hf⟩ := pm_bd hf
  obtain ⟨k14, hf⟩ := pm_if hf
  obtain ⟨v15, e16, hf⟩ := pm_bd hf
  obtain ⟨k17, hf⟩ := pm_if hf
  obtain ⟨v18, e19, hf⟩ := pm_bd hf
  by_cases c20 : v18 = 0
  · have hf := pm_it hf c20
    obtain ⟨v21, e22, hf⟩ := pm_bd hf
    have K23 := pw_t (by decide) K0 (wfX5_fail (pw_rf _) e22)
    have hf := Option.some.inj hf
    subst hf
    exact K23
  · have hf := pm_ie hf c20
    obtain ⟨v24, e25, hf⟩ := pm_bd hf
    by_cases c26 : 0 ≤ v24
    · have hf := pm_it hf c26
      obtain ⟨v27, e28, hf⟩ := pm_bd hf
      obtain ⟨v29, e30, hf⟩ := pm_bd hf
      obtain ⟨k31, hf⟩ := pm_if hf
      obtain ⟨v32, e33, hf⟩ := pm_bd hf
      have K34 := pw_t (by decide) K0 (wfX7_shape (pw_rf _) e33)
      exact wfX5_callByTable_b92 K34  hf
    · have hf := pm_ie hf c26
      obtain ⟨v35, e36, hf⟩ := pm_bd hf
      have K37 := pw_t (by decide) K0 (wfX5_fail (pw_rf _) e36)
      have hf := Option.some.inj hf
      subst hf
      exact K37
set_option maxHeartbeats 4000000 in
set_option maxRecDepth 100000 in
theorem wfX5_callByTable {h0 h : pm_H} (K0 : pw_F WX5_callByTable h0 h) {a0 : Nat} {p1 : Int32} {p2 : Int32} {p3 : Int64} {p4 : Int32}  {r : pm_H} (hf : fX5_callByTable h a0 p1 p2 p3 p4 = some r) : pw_F WX5_callByTable h0 r := by
  unfold fX5_callByTable at hf
  exact wfX5_callByTable_b0 K0  hf
abbrev WX6_create : List Nat := [768, 769, 4352, 4480, 4736]
set_option maxHeartbeats 4000000 in
set_option maxRecDepth 100000 in
theorem wfX6_create_b43 {h0 h : pm_H} (K0 : pw_F WX6_create h0 h) {x5 : Int32} {s0 : Int32}  {r : (Int32 × pm_H)} (hf : fX6_create_b43 h x5 s0 = some r) : pw_F WX6_create h0 r.2 := by
  unfold fX6_create_b43 at hf
  have hf := Option.some.inj hf
  subst hf
  exact K0
set_option maxHeartbeats 4000000 in
set_option maxRecDepth 100000 in
theorem wfX6_create_b0 {h0 h : pm_H} (K0 : pw_F WX6_create h0 h) {x0 : Nat} {x1 : Int64} {x3 : Int64}  {r : (Int32 × pm_H)} (hf : fX6_create_b0 h x0 x1 x3 = some r) : pw_F WX6_create h0 r.2 := by
  unfold fX6_create_b0 at hf
  obtain ⟨k1, hf⟩ := pm_if hf
  obtain ⟨y2, e3, hf⟩ := pm_lt hf
  obtain ⟨y4, e5, hf⟩ := pm_lt hf
  obtain ⟨v6, e7, hf⟩ := pm_bd hf
  obtain ⟨v8, e9, hf⟩ := pm_bd hf
  have K10 := pw_t (by decide) (pw_sI K0 rfl k1 (by decide)) (wfX12_setItem (pw_rf _) e9)
  obtain ⟨k11, hf⟩ := pm_if hf
  obtain ⟨v12, e13, hf⟩ := pm_bd hf
  obtain ⟨v14, e15, hf⟩ := pm_bd hf
  have K16 := pw_t (by decide) K10 (wfX12_setItem_ (pw_rf _) e15)
  obtain ⟨k17, hf⟩ := pm_if hf
  obtain ⟨v18, e19, hf⟩ := pm_bd hf
  have K20 := pw_t (by decide) K16 (wfX6_grow (pw_rf _) e19)
  exact wfX6_create_b43 K20  hf
set_option maxHeartbeats 4000000 in
set_option maxRecDepth 100000 in
theorem wfX6_create {h0 h : pm_H} (K0 : pw_F WX6_create h0 h) {a0 : Nat} {p1 : Int64} {p2 : Int64}  {r : (Int32 × pm_H)} (hf : fX6_create h a0 p1 p2 = some r) : pw_F WX6_create h0 r.2 := by
  unfold fX6_create at hf
  exact wfX6_create_b0 K0  hf
abbrev WX16_make : List Nat := [2058, 2067, 2084, 2093, 2094, 2095, 2100, 2101, 2106, 2110, 2119, 2121, 2124, 2125, 2126, 2127, 2128, 2131, 2133, 2141, 2142, 2143, 2144, 4096, 4224, 4352, 4480]
set_option maxHeartbeats 4000000 in
set_option maxRecDepth 100000 in
theorem wlX16_make {h0 : pm_H} {r : (Int32 × pm_H)} : ∀ n : Nat, (∀ (x0 : Nat) (x1 : Int32) (h : pm_H), pw_F WX16_make h0 h → pm_iter sX16_make n (.inl (x0, x1, h)) = some r → pw_F WX16_make h0 r.2) ∧ (∀ (x0 : Nat) (x1 : Int32) (x2 : Nat) (x4 : Int32) (x5 : Int32) (h : pm_H), pw_F WX16_make h0 h → pm_iter sX16_make n (.inr (.inl (x0, x1, x2, x4, x5, h))) = some r → pw_F WX16_make h0 r.2) ∧ (∀ (x0 : Nat) (x1 : Int32) (x5 : Int32) (h : pm_H), pw_F WX16_make h0 h → pm_iter sX16_make n (.inr (.inr (x0, x1, x5, h))) = some r → pw_F WX16_make h0 r.2) := by
  intro n
  induction n with
  | zero => exact ⟨fun _ _ _ _ hf => (by cases hf), fun _ _ _ _ _ _ _ hf => (by cases hf), fun _ _ _ _ _ hf => (by cases hf)⟩
  | succ n ih =>
    refine ⟨fun x0 x1 h K0 hf => ?_, ?_⟩
    · obtain ⟨y, hf, hi⟩ := pm_iter_s hf
      have hf : tX16_make_0 x0 x1 h = some y := hf
      unfold tX16_make_0 at hf
      by_cases c1 : x1 < 0
      · have hf := pm_it hf c1
        have hf := Option.some.inj hf
        subst hf
        have hi := Option.some.inj (show some _ = some r from hi)
        subst hi
        exact K0
      · have hf := pm_ie hf c1
        obtain ⟨k2, hf⟩ := pm_if hf
        by_cases c3 : x1 < (pm_I h x0 3)
        · have hf := pm_it hf c3
          obtain ⟨v4, e5, hf⟩ := pm_bd hf
          by_cases c6 : v4 = 0
          · have hf := pm_it hf c6
            obtain ⟨v7, e8, hf⟩ := pm_bd hf
            obtain ⟨k9, hf⟩ := pm_if hf
            obtain ⟨u10, hf⟩ := pm_if hf
            obtain ⟨v11, e12, hf⟩ := pm_bd hf
            obtain ⟨y13, e14, hf⟩ := pm_lt hf
            obtain ⟨k15, hf⟩ := pm_if hf
            have k15b := (congrFun (pkI rfl) v11).symm.trans k15
            by_cases c16 : y13 = (pm_I (pm_setI h x0 73 0) v11 8)
            · have hf := pm_it hf c16
              cases hf
              exact ih.2.1 x0 x1 v11 0 0 (pm_setI h x0 73 0) (pw_sI K0 rfl k2 (by decide))  hi
            · have hf := pm_ie hf c16
              have hf := Option.some.inj hf
              subst hf
              have hi := Option.some.inj (show some _ = some r from hi)
              subst hi
              exact (pw_sI K0 rfl k2 (by decide))
          · have hf := pm_ie hf c6
            have hf := Option.some.inj hf
            subst hf
            have hi := Option.some.inj (show some _ = some r from hi)
            subst hi
            exact K0
        · have hf := pm_ie hf c3
          have hf := Option.some.inj hf
          subst hf
          have hi := Option.some.inj (show some _ = some r from hi)
          subst hi
          exact K0
    refine ⟨fun x0 x1 x2 x4 x5 h K0 hf => ?_, ?_⟩
    · obtain ⟨y, hf, hi⟩ := pm_iter_s hf
      have hf : tX16_make_58 x0 x1 x2 x4 x5 h = some y := hf
      unfold tX16_make_58 at hf
      obtain ⟨k17, hf⟩ := pm_if hf
      by_cases c18 : (pm_I h x2 8) ≤ x5
      · have hf := pm_it hf c18
        obtain ⟨k19, hf⟩ := pm_if hf
        obtain ⟨v20, e21, hf⟩ := pm_bd hf
        by_cases c22 : v20 = 0
        · have hf := pm_it hf c22
          have hf := Option.some.inj hf
          subst hf
          have hi := Option.some.inj (show some _ = some r from hi)
          subst hi
          exact K0
        · have hf := pm_ie hf c22
          obtain ⟨y23, e24, hf⟩ := pm_lt hf
          obtain ⟨y25, e26, hf⟩ := pm_lt hf
          obtain ⟨v27, e28, hf⟩ := pm_bd hf
          obtain ⟨k29, hf⟩ := pm_if hf
          have k29b := (congrFun (pkI rfl) v27).symm.trans k29
          obtain ⟨u30, hf⟩ := pm_if hf
          obtain ⟨v31, e32, hf⟩ := pm_bd hf
          have K33 := pw_t (by decide) (pw_sR (pw_aI (pw_sI K0 rfl k19 (by decide)) (pkI rfl) k29b (by decide) (by decide)) (pkI (pkI rfl)) k19 (by decide)) (wfX16_takesImports (pw_rf _) e32)
          cases hf
          exact ih.2.2 x0 x1 y23 v31 K33  hi
      · have hf := pm_ie hf c18
        obtain ⟨k34, hf⟩ := pm_if hf
        obtain ⟨v35, e36, hf⟩ := pm_bd hf
        by_cases c37 : v35 = 0
        · have hf := pm_it hf c37
          obtain ⟨v38, e39, hf⟩ := pm_bd hf
          obtain ⟨k40, hf⟩ := pm_if hf
          obtain ⟨u41, hf⟩ := pm_if hf
          have hf := Option.some.inj hf
          subst hf
          have hi := Option.some.inj (show some _ = some r from hi)
          subst hi
          exact K0
        · have hf := pm_ie hf c37
          obtain ⟨v42, e43, hf⟩ := pm_bd hf
          obtain ⟨k44, hf⟩ := pm_if hf
          obtain ⟨u45, hf⟩ := pm_if hf
          by_cases c46 : (pm_I h v42 x5.toNatClampNeg) = (-1)
          · have hf := pm_it hf c46
            obtain ⟨y47, e48, hf⟩ := pm_lt hf
            obtain ⟨y49, e50, hf⟩ := pm_lt hf
            cases hf
            exact ih.2.1 x0 x1 x2 y47 y49 h K0  hi
          · have hf := pm_ie hf c46
            obtain ⟨y51, e52, hf⟩ := pm_lt hf
            obtain ⟨y53, e54, hf⟩ := pm_lt hf
            cases hf
            exact ih.2.1 x0 x1 x2 y51 y53 h K0  hi
    refine fun x0 x1 x5 h K0 hf => ?_
    obtain ⟨y, hf, hi⟩ := pm_iter_s hf
    have hf : tX16_make_164 x0 x1 x5 h = some y := hf
    unfold tX16_make_164 at hf
    obtain ⟨k55, hf⟩ := pm_if hf
    obtain ⟨v56, e57, hf⟩ := pm_bd hf
    have K58 := pw_t (by decide) K0 (wfX16_takesOwn (pw_rf _) e57)
    obtain ⟨k59, hf⟩ := pm_if hf
    obtain ⟨v60, e61, hf⟩ := pm_bd hf
    have K62 := pw_t (by decide) K58 (wfX16_startsUp (pw_rf _) e61)
    have hf := Option.some.inj hf
    subst hf
    have hi := Option.some.inj (show some _ = some r from hi)
    subst hi
    exact K62
set_option maxHeartbeats 4000000 in
set_option maxRecDepth 100000 in
theorem wfX16_make {h0 h : pm_H} (K0 : pw_F WX16_make h0 h) {a0 : Nat} {p1 : Int32}  {r : (Int32 × pm_H)} (hf : fX16_make h a0 p1 = some r) : pw_F WX16_make h0 r.2 := by
  unfold fX16_make at hf
  obtain ⟨n, hn⟩ := pm_lim_iter hf
  exact (wlX16_make n).1 a0 p1 h K0  hn
abbrev WX1_check : List Nat := [0, 1, 5, 7, 8, 128, 129, 130, 132, 908, 1152, 1153, 1154, 1155, 1156, 1157, 1158, 1159, 1160, 1161, 1168, 4096, 4864]
set_option maxHeartbeats 4000000 in
set_option maxRecDepth 100000 in
theorem wfX1_check_b136 {h0 h : pm_H} (K0 : pw_F WX1_check h0 h)   {r : pm_H} (hf : fX1_check_b136 h  = some r) : pw_F WX1_check h0 r := by
  unfold fX1_check_b136 at hf
  have hf := Option.some.inj hf
  subst hf
  exact K0
set_option maxHeartbeats 4000000 in
set_option maxRecDepth 100000 in
theorem wfX1_check_b125 {h0 h : pm_H} (K0 : pw_F WX1_check h0 h) {x0 : Nat}  {r : pm_H} (hf : fX1_check_b125 h x0 = some r) : pw_F WX1_check h0 r := by
  unfold fX1_check_b125 at hf
  obtain ⟨k52, hf⟩ := pm_if hf
  by_cases c53 : (pm_I h x0 0) = 0
  · have hf := pm_it hf c53
    obtain ⟨v54, e55, hf⟩ := pm_bd hf
    have K56 := pw_t (by decide) K0 (wfX1_makeBodies (pw_rf _) e55)
    exact wfX1_check_b136 K56  hf
  · have hf := pm_ie hf c53
    exact wfX1_check_b136 K0  hf
set_option maxHeartbeats 4000000 in
set_option maxRecDepth 100000 in
theorem wfX1_check_b114 {h0 h : pm_H} (K0 : pw_F WX1_check h0 h) {x0 : Nat}  {r : pm_H} (hf : fX1_check_b114 h x0 = some r) : pw_F WX1_check h0 r := by
  unfold fX1_check_b114 at hf
  obtain ⟨k47, hf⟩ := pm_if hf
  by_cases c48 : (pm_I h x0 0) = 0
  · have hf := pm_it hf c48
    obtain ⟨v49, e50, hf⟩ := pm_bd hf
    have K51 := pw_t (by decide) K0 (wfX1_dataAreRight (pw_rf _) e50)
    exact wfX1_check_b125 K51  hf
  · have hf := pm_ie hf c48
    exact wfX1_check_b125 K0  hf
set_option maxHeartbeats 4000000 in
set_option maxRecDepth 100000 in
theorem wfX1_check_b103 {h0 h : pm_H} (K0 : pw_F WX1_check h0 h) {x0 : Nat}  {r : pm_H} (hf : fX1_check_b103 h x0 = some r) : pw_F WX1_check h0 r := by
  unfold fX1_check_b103 at hf
  obtain ⟨k42, hf⟩ := pm_if hf
  by_cases c43 : (pm_I h x0 0) = 0
  · have hf := pm_it hf c43
    obtain ⟨v44, e45, hf⟩ := pm_bd hf
    have K46 := pw_t (by decide) K0 (wfX1_elementsAreRight (pw_rf _) e45)
    exact wfX1_check_b114 K46  hf
  · have hf := pm_ie hf c43
    exact wfX1_check_b114 K0  hf
set_option maxHeartbeats 4000000 in
set_option maxRecDepth 100000 in
theorem wfX1_check_b92 {h0 h : pm_H} (K0 : pw_F WX1_check h0 h) {x0 : Nat}  {r : pm_H} (hf : fX1_check_b92 h x0 = some r) : pw_F WX1_check h0 r := by
  unfold fX1_check_b92 at hf
  obtain ⟨k37, hf⟩ := pm_if hf
  by_cases c38 : (pm_I h x0 0) = 0
  · have hf := pm_it hf c38
    obtain ⟨v39, e40, hf⟩ := pm_bd hf
    have K41 := pw_t (by decide) K0 (wfX1_globalsAreRight (pw_rf _) e40)
    exact wfX1_check_b103 K41  hf
  · have hf := pm_ie hf c38
    exact wfX1_check_b103 K0  hf
set_option maxHeartbeats 4000000 in
set_option maxRecDepth 100000 in
theorem wfX1_check_b81 {h0 h : pm_H} (K0 : pw_F WX1_check h0 h) {x0 : Nat}  {r : pm_H} (hf : fX1_check_b81 h x0 = some r) : pw_F WX1_check h0 r := by
  unfold fX1_check_b81 at hf
  obtain ⟨k32, hf⟩ := pm_if hf
  by_cases c33 : (pm_I h x0 0) = 0
  · have hf := pm_it hf c33
    obtain ⟨v34, e35, hf⟩ := pm_bd hf
    have K36 := pw_t (by decide) K0 (wfX1_startIsRight (pw_rf _) e35)
    exact wfX1_check_b92 K36  hf
  · have hf := pm_ie hf c33
    exact wfX1_check_b92 K0  hf
set_option maxHeartbeats 4000000 in
set_option maxRecDepth 100000 in
theorem wfX1_check_b70 {h0 h : pm_H} (K0 : pw_F WX1_check h0 h) {x0 : Nat}  {r : pm_H} (hf : fX1_check_b70 h x0 = some r) : pw_F WX1_check h0 r := by
  unfold fX1_check_b70 at hf
  obtain ⟨k27, hf⟩ := pm_if hf
  by_cases c28 : (pm_I h x0 0) = 0
  · have hf := pm_it hf c28
    obtain ⟨v29, e30, hf⟩ := pm_bd hf
    have K31 := pw_t (by decide) K0 (wfX1_exportsAreRight (pw_rf _) e30)
    exact wfX1_check_b81 K31  hf
  · have hf := pm_ie hf c28
    exact wfX1_check_b81 K0  hf
set_option maxHeartbeats 4000000 in
set_option maxRecDepth 100000 in
theorem wfX1_check_b59 {h0 h : pm_H} (K0 : pw_F WX1_check h0 h) {x0 : Nat}  {r : pm_H} (hf : fX1_check_b59 h x0 = some r) : pw_F WX1_check h0 r := by
  unfold fX1_check_b59 at hf
  obtain ⟨k22, hf⟩ := pm_if hf
  by_cases c23 : (pm_I h x0 0) = 0
  · have hf := pm_it hf c23
    obtain ⟨v24, e25, hf⟩ := pm_bd hf
    have K26 := pw_t (by decide) K0 (wfX1_memoryIsOne (pw_rf _) e25)
    exact wfX1_check_b70 K26  hf
  · have hf := pm_ie hf c23
    exact wfX1_check_b70 K0  hf
set_option maxHeartbeats 4000000 in
set_option maxRecDepth 100000 in
theorem wfX1_check_b48 {h0 h : pm_H} (K0 : pw_F WX1_check h0 h) {x0 : Nat}  {r : pm_H} (hf : fX1_check_b48 h x0 = some r) : pw_F WX1_check h0 r := by
  unfold fX1_check_b48 at hf
  obtain ⟨k17, hf⟩ := pm_if hf
  by_cases c18 : (pm_I h x0 0) = 0
  · have hf := pm_it hf c18
    obtain ⟨v19, e20, hf⟩ := pm_bd hf
    have K21 := pw_t (by decide) K0 (wfX1_limitsAreRight (pw_rf _) e20)
    exact wfX1_check_b59 K21  hf
  · have hf := pm_ie hf c18
    exact wfX1_check_b59 K0  hf
set_option maxHeartbeats 4000000 in
set_option maxRecDepth 100000 in
theorem wfX1_check_b37 {h0 h : pm_H} (K0 : pw_F WX1_check h0 h) {x0 : Nat}  {r : pm_H} (hf : fX1_check_b37 h x0 = some r) : pw_F WX1_check h0 r := by
  unfold fX1_check_b37 at hf
  obtain ⟨k12, hf⟩ := pm_if hf
  by_cases c13 : (pm_I h x0 0) = 0
  · have hf := pm_it hf c13
    obtain ⟨v14, e15, hf⟩ := pm_bd hf
    have K16 := pw_t (by decide) K0 (wfX1_typesAreThere (pw_rf _) e15)
    exact wfX1_check_b48 K16  hf
  · have hf := pm_ie hf c13
    exact wfX1_check_b48 K0  hf
set_option maxHeartbeats 4000000 in
set_option maxRecDepth 100000 in
theorem wfX1_check_b23 {h0 h : pm_H} (K0 : pw_F WX1_check h0 h) {x0 : Nat} {x2 : Int32} {s0 : Nat} {s1 : Nat}  {r : pm_H} (hf : fX1_check_b23 h x0 x2 s0 s1 = some r) : pw_F WX1_check h0 r := by
  unfold fX1_check_b23 at hf
  obtain ⟨k6, hf⟩ := pm_if hf
  by_cases c7 : x2 < 0
  · have hf := pm_it hf c7
    exact wfX1_check_b37 (pw_sR K0 rfl k6 (by decide))  hf
  · have hf := pm_ie hf c7
    obtain ⟨k8, hf⟩ := pm_if hf
    have k8b := (congrFun (pkR rfl) x0).symm.trans k8
    obtain ⟨v9, e10, hf⟩ := pm_bd hf
    have K11 := pw_t (by decide) (pw_sR K0 rfl k6 (by decide)) (wfX1_failAt (pw_rf _) e10)
    exact wfX1_check_b37 K11  hf
set_option maxHeartbeats 4000000 in
set_option maxRecDepth 100000 in
theorem wfX1_check_b0 {h0 h : pm_H} (K0 : pw_F WX1_check h0 h) {x0 : Nat} {x1 : Nat} {x2 : Int32}  {r : pm_H} (hf : fX1_check_b0 h x0 x1 x2 = some r) : pw_F WX1_check h0 r := by
  unfold fX1_check_b0 at hf
  obtain ⟨k1, hf⟩ := pm_if hf
  obtain ⟨k2, hf⟩ := pm_if hf
  have k2b := (congrFun (pkI (pkI (pkR rfl))) x1).symm.trans k2
  obtain ⟨v3, e4, hf⟩ := pm_bd hf
  obtain ⟨u5, hf⟩ := pm_if hf
  exact wfX1_check_b23 (pw_new (pw_sI (pw_sI (pw_sR K0 rfl k1 (by decide)) (pkR rfl) k1 (by decide)) (pkI (pkR rfl)) k1 (by decide)))  hf
set_option maxHeartbeats 4000000 in
set_option maxRecDepth 100000 in
theorem wfX1_check {h0 h : pm_H} (K0 : pw_F WX1_check h0 h) {a0 : Nat} {p1 : Nat} {p2 : Int32}  {r : pm_H} (hf : fX1_check h a0 p1 p2 = some r) : pw_F WX1_check h0 r := by
  unfold fX1_check at hf
  exact wfX1_check_b0 K0  hf
abbrev WX1_emitBranch : List Nat := [2, 4352]
set_option maxHeartbeats 4000000 in
set_option maxRecDepth 100000 in
theorem wfX1_emitBranch_b32 {h0 h : pm_H} (K0 : pw_F WX1_emitBranch h0 h) {x0 : Nat} {x2 : Int32} {x3 : Int32} {s0 : Int32} {s1 : Int32} {s2 : Int32} {s3 : Nat}  {r : pm_H} (hf : fX1_emitBranch_b32 h x0 x2 x3 s0 s1 s2 s3 = some r) : pw_F WX1_emitBranch h0 r := by
  unfold fX1_emitBranch_b32 at hf
  obtain ⟨k12, hf⟩ := pm_if hf
  obtain ⟨v13, e14, hf⟩ := pm_bd hf
  obtain ⟨k15, hf⟩ := pm_if hf
  obtain ⟨v16, e17, hf⟩ := pm_bd hf
  have K18 := pw_t (by decide) K0 (wfX1_emit (pw_rf _) e17)
  by_cases c19 : x3 = 0
  · have hf := pm_it hf c19
    by_cases c20 : v16.1 < 0
    · have hf := pm_it hf c20
      have hf := Option.some.inj hf
      subst hf
      exact K18
    · have hf := pm_ie hf c20
      obtain ⟨k21, hf⟩ := pm_if hf
      obtain ⟨v22, e23, hf⟩ := pm_bd hf
      have K24 := pw_t (by decide) K18 (wfX1_setLabel (pw_rf _) e23)
      have hf := Option.some.inj hf
      subst hf
      exact K24
  · have hf := pm_ie hf c19
    have hf := Option.some.inj hf
    subst hf
    exact K18
set_option maxHeartbeats 4000000 in
set_option maxRecDepth 100000 in
theorem wfX1_emitBranch_b18 {h0 h : pm_H} (K0 : pw_F WX1_emitBranch h0 h) {x0 : Nat} {x1 : Int32} {x2 : Int32} {x3 : Int32} {s0 : Int32} {s1 : Int32} {s2 : Nat}  {r : pm_H} (hf : fX1_emitBranch_b18 h x0 x1 x2 x3 s0 s1 s2 = some r) : pw_F WX1_emitBranch h0 r := by
  unfold fX1_emitBranch_b18 at hf
  obtain ⟨k5, hf⟩ := pm_if hf
  obtain ⟨v6, e7, hf⟩ := pm_bd hf
  obtain ⟨k8, hf⟩ := pm_if hf
  obtain ⟨v9, e10, hf⟩ := pm_bd hf
  have K11 := pw_t (by decide) K0 (wfX1_wantedCount (pw_rf _) e10)
  exact wfX1_emitBranch_b32 K11  hf
set_option maxHeartbeats 4000000 in
set_option maxRecDepth 100000 in
theorem wfX1_emitBranch_b0 {h0 h : pm_H} (K0 : pw_F WX1_emitBranch h0 h) {x0 : Nat} {x1 : Int32} {x2 : Int32}  {r : pm_H} (hf : fX1_emitBranch_b0 h x0 x1 x2 = some r) : pw_F WX1_emitBranch h0 r := by
  unfold fX1_emitBranch_b0 at hf
  obtain ⟨k1, hf⟩ := pm_if hf
  obtain ⟨v2, e3, hf⟩ := pm_bd hf
  by_cases c4 : v2 = 0
  · have hf := pm_it hf c4
    exact wfX1_emitBranch_b18 K0  hf
  · have hf := pm_ie hf c4
    exact wfX1_emitBranch_b18 K0  hf
set_option maxHeartbeats 4000000 in
set_option maxRecDepth 100000 in
theorem wfX1_emitBranch {h0 h : pm_H} (K0 : pw_F WX1_emitBranch h0 h) {a0 : Nat} {p1 : Int32} {p2 : Int32}  {r : pm_H} (hf : fX1_emitBranch h a0 p1 p2 = some r) : pw_F WX1_emitBranch h0 r := by
  unfold fX1_emitBranch at hf
  exact wfX1_emitBranch_b0 K0  hf
abbrev WX1_endBlock : List Nat := [2, 128, 129, 134, 138, 4352]
set_option maxHeartbeats 4000000 in
set_option maxRecDepth 100000 in
theorem wlX1_endBlock {h0 : pm_H} {r : pm_H} : ∀ n : Nat, (∀ (x0 : Nat) (h : pm_H), pw_F WX1_endBlock h0 h → pm_iter sX1_endBlock n (.inl (x0, h)) = some r → pw_F WX1_endBlock h0 r) ∧ (∀ (x0 : Nat) (x1 : Int32) (s0 : Nat) (h : pm_H), pw_F WX1_endBlock h0 h → pm_iter sX1_endBlock n (.inr (.inl (x0, x1, s0, h))) = some r → pw_F WX1_endBlock h0 r) ∧ (∀ (x0 : Nat) (x1 : Int32) (x2 : Nat) (h : pm_H), pw_F WX1_endBlock h0 h → pm_iter sX1_endBlock n (.inr (.inr (.inl (x0, x1, x2, h)))) = some r → pw_F WX1_endBlock h0 r) ∧ (∀ (x0 : Nat) (x1 : Int32) (x2 : Nat) (h : pm_H), pw_F WX1_endBlock h0 h → pm_iter sX1_endBlock n (.inr (.inr (.inr (.inl (x0, x1, x2, h))))) = some r → pw_F WX1_endBlock h0 r) ∧ (∀ (x0 : Nat) (x2 : Nat) (x3 : Int32) (x4 : Int32) (h : pm_H), pw_F WX1_endBlock h0 h → pm_iter sX1_endBlock n (.inr (.inr (.inr (.inr (x0, x2, x3, x4, h))))) = some r → pw_F WX1_endBlock h0 r) := by
  intro n
  induction n with
  | zero => exact ⟨fun _ _ _ hf => (by cases hf), fun _ _ _ _ _ hf => (by cases hf), fun _ _ _ _ _ hf => (by cases hf), fun _ _ _ _ _ hf => (by cases hf), fun _ _ _ _ _ _ hf => (by cases hf)⟩
  | succ n ih =>
    refine ⟨fun x0 h K0 hf => ?_, ?_⟩
    · obtain ⟨y, hf, hi⟩ := pm_iter_s hf
      have hf : tX1_endBlock_0 x0 h = some y := hf
      unfold tX1_endBlock_0 at hf
      obtain ⟨k1, hf⟩ := pm_if hf
      obtain ⟨y2, e3, hf⟩ := pm_lt hf
      obtain ⟨v4, e5, hf⟩ := pm_bd hf
      have K6 := pw_t (by decide) K0 (wfX1_shapeOfLabel (pw_rf _) e5)
      cases hf
      exact ih.2.1 x0 y2 v4.1 v4.2 K6  hi
    refine ⟨fun x0 x1 s0 h K0 hf => ?_, ?_⟩
    · obtain ⟨y, hf, hi⟩ := pm_iter_s hf
      have hf : tX1_endBlock_12 x0 x1 s0 h = some y := hf
      unfold tX1_endBlock_12 at hf
      obtain ⟨k7, hf⟩ := pm_if hf
      obtain ⟨v8, e9, hf⟩ := pm_bd hf
      have K10 := pw_t (by decide) K0 (wfX1_takeAllResults (pw_rf _) e9)
      cases hf
      exact ih.2.2.1 x0 x1 s0 v8 K10  hi
    refine ⟨fun x0 x1 x2 h K0 hf => ?_, ?_⟩
    · obtain ⟨y, hf, hi⟩ := pm_iter_s hf
      have hf : tX1_endBlock_18 x0 x1 x2 h = some y := hf
      unfold tX1_endBlock_18 at hf
      obtain ⟨k11, hf⟩ := pm_if hf
      obtain ⟨v12, e13, hf⟩ := pm_bd hf
      by_cases c14 : v12 = 4
      · have hf := pm_it hf c14
        obtain ⟨v15, e16, hf⟩ := pm_bd hf
        by_cases c17 : v15 = 0
        · have hf := pm_it hf c17
          obtain ⟨v18, e19, hf⟩ := pm_bd hf
          have K20 := pw_t (by decide) K0 (wfX1_fail (pw_rf _) e19)
          cases hf
          exact ih.2.2.2.1 x0 x1 x2 v18 K20  hi
        · have hf := pm_ie hf c17
          cases hf
          exact ih.2.2.2.1 x0 x1 x2 h K0  hi
      · have hf := pm_ie hf c14
        cases hf
        exact ih.2.2.2.1 x0 x1 x2 h K0  hi
    refine ⟨fun x0 x1 x2 h K0 hf => ?_, ?_⟩
    · obtain ⟨y, hf, hi⟩ := pm_iter_s hf
      have hf : tX1_endBlock_41 x0 x1 x2 h = some y := hf
      unfold tX1_endBlock_41 at hf
      obtain ⟨k21, hf⟩ := pm_if hf
      by_cases c22 : (pm_I h x0 0) = 0
      · have hf := pm_it hf c22
        obtain ⟨v23, e24, hf⟩ := pm_bd hf
        have K25 := pw_t (by decide) K0 (wfX1_aimCondition (pw_rf _) e24)
        obtain ⟨k26, hf⟩ := pm_if hf
        obtain ⟨v27, e28, hf⟩ := pm_bd hf
        cases hf
        exact ih.2.2.2.2 x0 x2 v27 0 v23 K25  hi
      · have hf := pm_ie hf c22
        have hf := Option.some.inj hf
        subst hf
        have hi := Option.some.inj (show some _ = some r from hi)
        subst hi
        exact K0
    refine fun x0 x2 x3 x4 h K0 hf => ?_
    obtain ⟨y, hf, hi⟩ := pm_iter_s hf
    have hf : tX1_endBlock_64 x0 x2 x3 x4 h = some y := hf
    unfold tX1_endBlock_64 at hf
    obtain ⟨k29, hf⟩ := pm_if hf
    obtain ⟨v30, e31, hf⟩ := pm_bd hf
    obtain ⟨k32, hf⟩ := pm_if hf
    by_cases c33 : (pm_I h v30 2) ≤ x4
    · have hf := pm_it hf c33
      obtain ⟨y34, e35, hf⟩ := pm_lt hf
      by_cases c36 : (pm_I (pm_setI h x0 10 y34) x0 10) ≤ 0
      · have hf := pm_it hf c36
        obtain ⟨v37, e38, hf⟩ := pm_bd hf
        obtain ⟨v39, e40, hf⟩ := pm_bd hf
        have K41 := pw_t (by decide) (pw_sI K0 rfl k29 (by decide)) (wfX0_emit (pw_rf _) e40)
        have hf := Option.some.inj hf
        subst hf
        have hi := Option.some.inj (show some _ = some r from hi)
        subst hi
        exact K41
      · have hf := pm_ie hf c36
        obtain ⟨v42, e43, hf⟩ := pm_bd hf
        have K44 := pw_t (by decide) (pw_sI K0 rfl k29 (by decide)) (wfX1_putResults (pw_rf _) e43)
        have hf := Option.some.inj hf
        subst hf
        have hi := Option.some.inj (show some _ = some r from hi)
        subst hi
        exact K44
    · have hf := pm_ie hf c33
      by_cases c45 : x3 < 0
      · have hf := pm_it hf c45
        obtain ⟨y46, e47, hf⟩ := pm_lt hf
        by_cases c48 : (pm_I (pm_setI h x0 10 y46) x0 10) ≤ 0
        · have hf := pm_it hf c48
          obtain ⟨v49, e50, hf⟩ := pm_bd hf
          obtain ⟨v51, e52, hf⟩ := pm_bd hf
          have K53 := pw_t (by decide) (pw_sI K0 rfl k29 (by decide)) (wfX0_emit (pw_rf _) e52)
          have hf := Option.some.inj hf
          subst hf
          have hi := Option.some.inj (show some _ = some r from hi)
          subst hi
          exact K53
        · have hf := pm_ie hf c48
          obtain ⟨v54, e55, hf⟩ := pm_bd hf
          have K56 := pw_t (by decide) (pw_sI K0 rfl k29 (by decide)) (wfX1_putResults (pw_rf _) e55)
          have hf := Option.some.inj hf
          subst hf
          have hi := Option.some.inj (show some _ = some r from hi)
          subst hi
          exact K56
      · have hf := pm_ie hf c45
        obtain ⟨v57, e58, hf⟩ := pm_bd hf
        obtain ⟨v59, e60, hf⟩ := pm_bd hf
        have K61 := pw_t (by decide) K0 (wfX0_aim (pw_rf _) e60)
        obtain ⟨y62, e63, hf⟩ := pm_lt hf
        cases hf
        exact ih.2.2.2.2 x0 x2 v57 y62 v59 K61  hi
set_option maxHeartbeats 4000000 in
set_option maxRecDepth 100000 in
theorem wfX1_endBlock {h0 h : pm_H} (K0 : pw_F WX1_endBlock h0 h) {a0 : Nat}  {r : pm_H} (hf : fX1_endBlock h a0 = some r) : pw_F WX1_endBlock h0 r := by
  unfold fX1_endBlock at hf
  obtain ⟨n, hn⟩ := pm_lim_iter hf
  exact (wlX1_endBlock n).1 a0 h K0  hn
abbrev WX1_otherwise : List Nat := [2, 128, 129, 134, 4352]
set_option maxHeartbeats 4000000 in
set_option maxRecDepth 100000 in
theorem wfX1_otherwise_b43 {h0 h : pm_H} (K0 : pw_F WX1_otherwise h0 h) {s0 : Nat} {s1 : Nat}  {r : pm_H} (hf : fX1_otherwise_b43 h s0 s1 = some r) : pw_F WX1_otherwise h0 r := by
  unfold fX1_otherwise_b43 at hf
  obtain ⟨k27, hf⟩ := pm_if hf
  obtain ⟨v28, e29, hf⟩ := pm_bd hf
  have K30 := pw_t (by decide) K0 (wfX1_putParameters (pw_rf _) e29)
  have hf := Option.some.inj hf
  subst hf
  exact K30
set_option maxHeartbeats 4000000 in
set_option maxRecDepth 100000 in
theorem wfX1_otherwise_b18 {h0 h : pm_H} (K0 : pw_F WX1_otherwise h0 h) {x0 : Nat} {x1 : Int32}  {r : pm_H} (hf : fX1_otherwise_b18 h x0 x1 = some r) : pw_F WX1_otherwise h0 r := by
  unfold fX1_otherwise_b18 at hf
  obtain ⟨k11, hf⟩ := pm_if hf
  obtain ⟨v12, e13, hf⟩ := pm_bd hf
  have K14 := pw_t (by decide) K0 (wfX1_aimCondition (pw_rf _) e13)
  obtain ⟨k15, hf⟩ := pm_if hf
  obtain ⟨v16, e17, hf⟩ := pm_bd hf
  have K18 := pw_t (by decide) K14 (wfX1_setLabel (pw_rf _) e17)
  obtain ⟨k19, hf⟩ := pm_if hf
  obtain ⟨v20, e21, hf⟩ := pm_bd hf
  have K22 := pw_t (by decide) K18 (wfX1_setLabel (pw_rf _) e21)
  obtain ⟨k23, hf⟩ := pm_if hf
  obtain ⟨v24, e25, hf⟩ := pm_bd hf
  have K26 := pw_t (by decide) K22 (wfX1_shapeOfLabel (pw_rf _) e25)
  exact wfX1_otherwise_b43 K26  hf
set_option maxHeartbeats 4000000 in
set_option maxRecDepth 100000 in
theorem wfX1_otherwise_b12 {h0 h : pm_H} (K0 : pw_F WX1_otherwise h0 h) {x0 : Nat} {x1 : Int32}  {r : pm_H} (hf : fX1_otherwise_b12 h x0 x1 = some r) : pw_F WX1_otherwise h0 r := by
  unfold fX1_otherwise_b12 at hf
  obtain ⟨k7, hf⟩ := pm_if hf
  obtain ⟨v8, e9, hf⟩ := pm_bd hf
  have K10 := pw_t (by decide) K0 (wfX1_emitBranch (pw_rf _) e9)
  exact wfX1_otherwise_b18 K10  hf
set_option maxHeartbeats 4000000 in
set_option maxRecDepth 100000 in
theorem wfX1_otherwise_b0 {h0 h : pm_H} (K0 : pw_F WX1_otherwise h0 h) {x0 : Nat}  {r : pm_H} (hf : fX1_otherwise_b0 h x0 = some r) : pw_F WX1_otherwise h0 r := by
  unfold fX1_otherwise_b0 at hf
  obtain ⟨k1, hf⟩ := pm_if hf
  obtain ⟨y2, e3, hf⟩ := pm_lt hf
  obtain ⟨v4, e5, hf⟩ := pm_bd hf
  have K6 := pw_t (by decide) K0 (wfX1_takeAllResults (pw_rf _) e5)
  exact wfX1_otherwise_b12 K6  hf
set_option maxHeartbeats 4000000 in
set_option maxRecDepth 100000 in
theorem wfX1_otherwise {h0 h : pm_H} (K0 : pw_F WX1_otherwise h0 h) {a0 : Nat}  {r : pm_H} (hf : fX1_otherwise h a0 = some r) : pw_F WX1_otherwise h0 r := by
  unfold fX1_otherwise at hf
  exact wfX1_otherwise_b0 K0  hf
abbrev WX1_takeAndPutAgain : List Nat := [128, 129, 134, 4352]
set_option maxHeartbeats 4000000 in
set_option maxRecDepth 100000 in
theorem wlX1_takeAndPutAgain {h0 : pm_H} {r : pm_H} : ∀ n : Nat, (∀ (x0 : Nat) (x1 : Int32) (h : pm_H), pw_F WX1_takeAndPutAgain h0 h → pm_iter sX1_takeAndPutAgain n (.inl (x0, x1, h)) = some r → pw_F WX1_takeAndPutAgain h0 r) ∧ (∀ (x0 : Nat) (x1 : Int32) (s0 : Int32) (s1 : Int32) (h : pm_H), pw_F WX1_takeAndPutAgain h0 h → pm_iter sX1_takeAndPutAgain n (.inr (.inl (x0, x1, s0, s1, h))) = some r → pw_F WX1_takeAndPutAgain h0 r) ∧ (∀ (x0 : Nat) (x1 : Int32) (x2 : Int32) (s0 : Nat) (h : pm_H), pw_F WX1_takeAndPutAgain h0 h → pm_iter sX1_takeAndPutAgain n (.inr (.inr (.inl (x0, x1, x2, s0, h)))) = some r → pw_F WX1_takeAndPutAgain h0 r) ∧ (∀ (x0 : Nat) (x2 : Int32) (x3 : Nat) (s0 : Int32) (h : pm_H), pw_F WX1_takeAndPutAgain h0 h → pm_iter sX1_takeAndPutAgain n (.inr (.inr (.inr (.inl (x0, x2, x3, s0, h))))) = some r → pw_F WX1_takeAndPutAgain h0 r) ∧ (∀ (x0 : Nat) (x2 : Int32) (x3 : Nat) (x4 : Int32) (x5 : Int32) (h : pm_H), pw_F WX1_takeAndPutAgain h0 h → pm_iter sX1_takeAndPutAgain n (.inr (.inr (.inr (.inr (.inl (x0, x2, x3, x4, x5, h)))))) = some r → pw_F WX1_takeAndPutAgain h0 r) ∧ (∀ (x0 : Nat) (x2 : Int32) (x5 : Int32) (h : pm_H), pw_F WX1_takeAndPutAgain h0 h → pm_iter sX1_takeAndPutAgain n (.inr (.inr (.inr (.inr (.inr (x0, x2, x5, h)))))) = some r → pw_F WX1_takeAndPutAgain h0 r) := by
  intro n
  induction n with
  | zero => exact ⟨fun _ _ _ _ hf => (by cases hf), fun _ _ _ _ _ _ hf => (by cases hf), fun _ _ _ _ _ _ hf => (by cases hf), fun _ _ _ _ _ _ hf => (by cases hf), fun _ _ _ _ _ _ _ hf => (by cases hf), fun _ _ _ _ _ hf => (by cases hf)⟩
  | succ n ih =>
    refine ⟨fun x0 x1 h K0 hf => ?_, ?_⟩
    · obtain ⟨y, hf, hi⟩ := pm_iter_s hf
      have hf : tX1_takeAndPutAgain_0 x0 x1 h = some y := hf
      unfold tX1_takeAndPutAgain_0 at hf
      obtain ⟨k1, hf⟩ := pm_if hf
      obtain ⟨v2, e3, hf⟩ := pm_bd hf
      obtain ⟨k4, hf⟩ := pm_if hf
      obtain ⟨v5, e6, hf⟩ := pm_bd hf
      have K7 := pw_t (by decide) K0 (wfX1_wantedCount (pw_rf _) e6)
      cases hf
      exact ih.2.1 x0 x1 v5.1 (Int32.ofNat (pm_ln h v2)) v5.2 K7  hi
    refine ⟨fun x0 x1 s0 s1 h K0 hf => ?_, ?_⟩
    · obtain ⟨y, hf, hi⟩ := pm_iter_s hf
      have hf : tX1_takeAndPutAgain_10 x0 x1 s0 s1 h = some y := hf
      unfold tX1_takeAndPutAgain_10 at hf
      obtain ⟨y8, e9, hf⟩ := pm_lt hf
      obtain ⟨k10, hf⟩ := pm_if hf
      obtain ⟨v11, e12, hf⟩ := pm_bd hf
      have K13 := pw_t (by decide) K0 (wfX1_shapeOfLabel (pw_rf _) e12)
      cases hf
      exact ih.2.2.1 x0 x1 y8 v11.1 v11.2 K13  hi
    refine ⟨fun x0 x1 x2 s0 h K0 hf => ?_, ?_⟩
    · obtain ⟨y, hf, hi⟩ := pm_iter_s hf
      have hf : tX1_takeAndPutAgain_19 x0 x1 x2 s0 h = some y := hf
      unfold tX1_takeAndPutAgain_19 at hf
      obtain ⟨k14, hf⟩ := pm_if hf
      obtain ⟨v15, e16, hf⟩ := pm_bd hf
      have K17 := pw_t (by decide) K0 (wfX1_wantedFrom (pw_rf _) e16)
      cases hf
      exact ih.2.2.2.1 x0 x2 s0 v15.1 v15.2 K17  hi
    refine ⟨fun x0 x2 x3 s0 h K0 hf => ?_, ?_⟩
    · obtain ⟨y, hf, hi⟩ := pm_iter_s hf
      have hf : tX1_takeAndPutAgain_25 x0 x2 x3 s0 h = some y := hf
      unfold tX1_takeAndPutAgain_25 at hf
      obtain ⟨y18, e19, hf⟩ := pm_lt hf
      cases hf
      exact ih.2.2.2.2.1 x0 x2 x3 s0 y18 h K0  hi
    refine ⟨fun x0 x2 x3 x4 x5 h K0 hf => ?_, ?_⟩
    · obtain ⟨y, hf, hi⟩ := pm_iter_s hf
      have hf : tX1_takeAndPutAgain_32 x0 x2 x3 x4 x5 h = some y := hf
      unfold tX1_takeAndPutAgain_32 at hf
      by_cases c20 : x5 < 0
      · have hf := pm_it hf c20
        cases hf
        exact ih.2.2.2.2.2 x0 x2 0 h K0  hi
      · have hf := pm_ie hf c20
        obtain ⟨k21, hf⟩ := pm_if hf
        obtain ⟨v22, e23, hf⟩ := pm_bd hf
        obtain ⟨v24, e25, hf⟩ := pm_bd hf
        obtain ⟨v26, e27, hf⟩ := pm_bd hf
        have K28 := pw_t (by decide) K0 (wfX1_take (pw_rf _) e27)
        obtain ⟨k29, hf⟩ := pm_if hf
        obtain ⟨u30, hf⟩ := pm_if hf
        obtain ⟨y31, e32, hf⟩ := pm_lt hf
        cases hf
        exact ih.2.2.2.2.1 x0 x2 x3 x4 y31 (pm_setI v26.2 v22 x5.toNatClampNeg v26.1) (pw_aI K28 rfl k29 (by decide) (by decide))  hi
    refine fun x0 x2 x5 h K0 hf => ?_
    obtain ⟨y, hf, hi⟩ := pm_iter_s hf
    have hf : tX1_takeAndPutAgain_66 x0 x2 x5 h = some y := hf
    unfold tX1_takeAndPutAgain_66 at hf
    by_cases c33 : x2 ≤ x5
    · have hf := pm_it hf c33
      have hf := Option.some.inj hf
      subst hf
      have hi := Option.some.inj (show some _ = some r from hi)
      subst hi
      exact K0
    · have hf := pm_ie hf c33
      obtain ⟨k34, hf⟩ := pm_if hf
      obtain ⟨v35, e36, hf⟩ := pm_bd hf
      obtain ⟨k37, hf⟩ := pm_if hf
      obtain ⟨u38, hf⟩ := pm_if hf
      obtain ⟨v39, e40, hf⟩ := pm_bd hf
      have K41 := pw_t (by decide) K0 (wfX1_put (pw_rf _) e40)
      obtain ⟨y42, e43, hf⟩ := pm_lt hf
      cases hf
      exact ih.2.2.2.2.2 x0 x2 y42 v39 K41  hi
set_option maxHeartbeats 4000000 in
set_option maxRecDepth 100000 in
theorem wfX1_takeAndPutAgain {h0 h : pm_H} (K0 : pw_F WX1_takeAndPutAgain h0 h) {a0 : Nat} {p1 : Int32}  {r : pm_H} (hf : fX1_takeAndPutAgain h a0 p1 = some r) : pw_F WX1_takeAndPutAgain h0 r := by
  unfold fX1_takeAndPutAgain at hf
  obtain ⟨n, hn⟩ := pm_lim_iter hf
  exact (wlX1_takeAndPutAgain n).1 a0 p1 h K0  hn
abbrev WX1_takeWanted : List Nat := [128, 129, 134]
set_option maxHeartbeats 4000000 in
set_option maxRecDepth 100000 in
theorem wfX1_takeWanted_b16 {h0 h : pm_H} (K0 : pw_F WX1_takeWanted h0 h) {s0 : Int32} {s1 : Int32} {s2 : Nat} {s3 : Nat}  {r : pm_H} (hf : fX1_takeWanted_b16 h s0 s1 s2 s3 = some r) : pw_F WX1_takeWanted h0 r := by
  unfold fX1_takeWanted_b16 at hf
  obtain ⟨k13, hf⟩ := pm_if hf
  obtain ⟨v14, e15, hf⟩ := pm_bd hf
  have K16 := pw_t (by decide) K0 (wfX1_takeTypes (pw_rf _) e15)
  have hf := Option.some.inj hf
  subst hf
  exact K16
set_option maxHeartbeats 4000000 in
set_option maxRecDepth 100000 in
theorem wfX1_takeWanted_b11 {h0 h : pm_H} (K0 : pw_F WX1_takeWanted h0 h) {x0 : Nat} {x1 : Int32} {s0 : Int32} {s1 : Nat} {s2 : Nat}  {r : pm_H} (hf : fX1_takeWanted_b11 h x0 x1 s0 s1 s2 = some r) : pw_F WX1_takeWanted h0 r := by
  unfold fX1_takeWanted_b11 at hf
  obtain ⟨k9, hf⟩ := pm_if hf
  obtain ⟨v10, e11, hf⟩ := pm_bd hf
  have K12 := pw_t (by decide) K0 (wfX1_wantedCount (pw_rf _) e11)
  exact wfX1_takeWanted_b16 K12  hf
set_option maxHeartbeats 4000000 in
set_option maxRecDepth 100000 in
theorem wfX1_takeWanted_b6 {h0 h : pm_H} (K0 : pw_F WX1_takeWanted h0 h) {x0 : Nat} {x1 : Int32} {s0 : Nat} {s1 : Nat}  {r : pm_H} (hf : fX1_takeWanted_b6 h x0 x1 s0 s1 = some r) : pw_F WX1_takeWanted h0 r := by
  unfold fX1_takeWanted_b6 at hf
  obtain ⟨k5, hf⟩ := pm_if hf
  obtain ⟨v6, e7, hf⟩ := pm_bd hf
  have K8 := pw_t (by decide) K0 (wfX1_wantedFrom (pw_rf _) e7)
  exact wfX1_takeWanted_b11 K8  hf
set_option maxHeartbeats 4000000 in
set_option maxRecDepth 100000 in
theorem wfX1_takeWanted_b0 {h0 h : pm_H} (K0 : pw_F WX1_takeWanted h0 h) {x0 : Nat} {x1 : Int32}  {r : pm_H} (hf : fX1_takeWanted_b0 h x0 x1 = some r) : pw_F WX1_takeWanted h0 r := by
  unfold fX1_takeWanted_b0 at hf
  obtain ⟨k1, hf⟩ := pm_if hf
  obtain ⟨v2, e3, hf⟩ := pm_bd hf
  have K4 := pw_t (by decide) K0 (wfX1_shapeOfLabel (pw_rf _) e3)
  exact wfX1_takeWanted_b6 K4  hf
set_option maxHeartbeats 4000000 in
set_option maxRecDepth 100000 in
theorem wfX1_takeWanted {h0 h : pm_H} (K0 : pw_F WX1_takeWanted h0 h) {a0 : Nat} {p1 : Int32}  {r : pm_H} (hf : fX1_takeWanted h a0 p1 = some r) : pw_F WX1_takeWanted h0 r := by
  unfold fX1_takeWanted at hf
  exact wfX1_takeWanted_b0 K0  hf
abbrev WX1_branch : List Nat := [2, 128, 129, 134, 4352]
set_option maxHeartbeats 4000000 in
set_option maxRecDepth 100000 in
theorem wfX1_branch_b94 {h0 h : pm_H} (K0 : pw_F WX1_branch h0 h) {x0 : Nat}  {r : pm_H} (hf : fX1_branch_b94 h x0 = some r) : pw_F WX1_branch h0 r := by
  unfold fX1_branch_b94 at hf
  obtain ⟨k45, hf⟩ := pm_if hf
  obtain ⟨v46, e47, hf⟩ := pm_bd hf
  obtain ⟨k48, hf⟩ := pm_if hf
  by_cases c49 : (pm_I h v46 6) = 12
  · have hf := pm_it hf c49
    obtain ⟨v50, e51, hf⟩ := pm_bd hf
    have K52 := pw_t (by decide) K0 (wfX1_die (pw_rf _) e51)
    have hf := Option.some.inj hf
    subst hf
    exact K52
  · have hf := pm_ie hf c49
    have hf := Option.some.inj hf
    subst hf
    exact K0
set_option maxHeartbeats 4000000 in
set_option maxRecDepth 100000 in
theorem wfX1_branch_b82 {h0 h : pm_H} (K0 : pw_F WX1_branch h0 h) {x0 : Nat} {x3 : Int32}  {r : pm_H} (hf : fX1_branch_b82 h x0 x3 = some r) : pw_F WX1_branch h0 r := by
  unfold fX1_branch_b82 at hf
  obtain ⟨k34, hf⟩ := pm_if hf
  obtain ⟨v35, e36, hf⟩ := pm_bd hf
  obtain ⟨k37, hf⟩ := pm_if hf
  obtain ⟨v38, e39, hf⟩ := pm_bd hf
  have K40 := pw_t (by decide) K0 (wfX1_emitBranch (pw_rf _) e39)
  exact wfX1_branch_b94 K40  hf
set_option maxHeartbeats 4000000 in
set_option maxRecDepth 100000 in
theorem wfX1_branch_b79 {h0 h : pm_H} (K0 : pw_F WX1_branch h0 h) {x0 : Nat} {x3 : Int32} {s0 : Int32} {s1 : Int32} {s2 : Nat} {s3 : Nat}  {r : pm_H} (hf : fX1_branch_b79 h x0 x3 s0 s1 s2 s3 = some r) : pw_F WX1_branch h0 r := by
  unfold fX1_branch_b79 at hf
  obtain ⟨k53, hf⟩ := pm_if hf
  obtain ⟨v54, e55, hf⟩ := pm_bd hf
  have K56 := pw_t (by decide) K0 (wfX1_putTypes (pw_rf _) e55)
  exact wfX1_branch_b82 K56  hf
set_option maxHeartbeats 4000000 in
set_option maxRecDepth 100000 in
theorem wfX1_branch_b74 {h0 h : pm_H} (K0 : pw_F WX1_branch h0 h) {x0 : Nat} {x3 : Int32} {s0 : Int32} {s1 : Nat} {s2 : Nat}  {r : pm_H} (hf : fX1_branch_b74 h x0 x3 s0 s1 s2 = some r) : pw_F WX1_branch h0 r := by
  unfold fX1_branch_b74 at hf
  obtain ⟨k41, hf⟩ := pm_if hf
  obtain ⟨v42, e43, hf⟩ := pm_bd hf
  have K44 := pw_t (by decide) K0 (wfX1_wantedCount (pw_rf _) e43)
  exact wfX1_branch_b79 K44  hf
set_option maxHeartbeats 4000000 in
set_option maxRecDepth 100000 in
theorem wfX1_branch_b69 {h0 h : pm_H} (K0 : pw_F WX1_branch h0 h) {x0 : Nat} {x3 : Int32} {s0 : Nat} {s1 : Nat}  {r : pm_H} (hf : fX1_branch_b69 h x0 x3 s0 s1 = some r) : pw_F WX1_branch h0 r := by
  unfold fX1_branch_b69 at hf
  obtain ⟨k30, hf⟩ := pm_if hf
  obtain ⟨v31, e32, hf⟩ := pm_bd hf
  have K33 := pw_t (by decide) K0 (wfX1_wantedFrom (pw_rf _) e32)
  exact wfX1_branch_b74 K33  hf
set_option maxHeartbeats 4000000 in
set_option maxRecDepth 100000 in
theorem wfX1_branch_b51 {h0 h : pm_H} (K0 : pw_F WX1_branch h0 h) {x0 : Nat} {x3 : Int32}  {r : pm_H} (hf : fX1_branch_b51 h x0 x3 = some r) : pw_F WX1_branch h0 r := by
  unfold fX1_branch_b51 at hf
  obtain ⟨k22, hf⟩ := pm_if hf
  obtain ⟨v23, e24, hf⟩ := pm_bd hf
  obtain ⟨k25, hf⟩ := pm_if hf
  by_cases c26 : (pm_I h v23 6) = 13
  · have hf := pm_it hf c26
    obtain ⟨v27, e28, hf⟩ := pm_bd hf
    have K29 := pw_t (by decide) K0 (wfX1_shapeOfLabel (pw_rf _) e28)
    exact wfX1_branch_b69 K29  hf
  · have hf := pm_ie hf c26
    exact wfX1_branch_b82 K0  hf
set_option maxHeartbeats 4000000 in
set_option maxRecDepth 100000 in
theorem wfX1_branch_b0 {h0 h : pm_H} (K0 : pw_F WX1_branch h0 h) {x0 : Nat} {x1 : Int64}  {r : pm_H} (hf : fX1_branch_b0 h x0 x1 = some r) : pw_F WX1_branch h0 r := by
  unfold fX1_branch_b0 at hf
  obtain ⟨k1, hf⟩ := pm_if hf
  by_cases c2 : x1 < ((pm_I h x0 10).toInt64)
  · have hf := pm_it hf c2
    obtain ⟨y3, e4, hf⟩ := pm_lt hf
    obtain ⟨v5, e6, hf⟩ := pm_bd hf
    obtain ⟨k7, hf⟩ := pm_if hf
    by_cases c8 : (pm_I h v5 6) = 13
    · have hf := pm_it hf c8
      obtain ⟨v9, e10, hf⟩ := pm_bd hf
      have K11 := pw_t (by decide) K0 (wfX1_take (pw_rf _) e10)
      obtain ⟨k12, hf⟩ := pm_if hf
      obtain ⟨v13, e14, hf⟩ := pm_bd hf
      have K15 := pw_t (by decide) K11 (wfX1_takeWanted (pw_rf _) e14)
      exact wfX1_branch_b51 K15  hf
    · have hf := pm_ie hf c8
      obtain ⟨v16, e17, hf⟩ := pm_bd hf
      have K18 := pw_t (by decide) K0 (wfX1_takeWanted (pw_rf _) e17)
      exact wfX1_branch_b51 K18  hf
  · have hf := pm_ie hf c2
    obtain ⟨v19, e20, hf⟩ := pm_bd hf
    have K21 := pw_t (by decide) K0 (wfX1_fail (pw_rf _) e20)
    have hf := Option.some.inj hf
    subst hf
    exact K21
set_option maxHeartbeats 4000000 in
set_option maxRecDepth 100000 in
theorem wfX1_branch {h0 h : pm_H} (K0 : pw_F WX1_branch h0 h) {a0 : Nat} {p1 : Int64}  {r : pm_H} (hf : fX1_branch h a0 p1 = some r) : pw_F WX1_branch h0 r := by
  unfold fX1_branch at hf
  exact wfX1_branch_b0 K0  hf
abbrev WX1_branchByTable : List Nat := [2, 128, 129, 134, 1153, 1155, 1156, 4352]
set_option maxHeartbeats 4000000 in
set_option maxRecDepth 100000 in
theorem wlX1_branchByTable {h0 : pm_H} {r : pm_H} : ∀ n : Nat, (∀ (x0 : Nat) (h : pm_H), pw_F WX1_branchByTable h0 h → pm_iter sX1_branchByTable n (.inl (x0, h)) = some r → pw_F WX1_branchByTable h0 r) ∧ (∀ (x0 : Nat) (x1 : Int32) (x2 : Int32) (x3 : Int32) (h : pm_H), pw_F WX1_branchByTable h0 h → pm_iter sX1_branchByTable n (.inr (.inl (x0, x1, x2, x3, h))) = some r → pw_F WX1_branchByTable h0 r) ∧ (∀ (x0 : Nat) (x1 : Int32) (x2 : Int32) (x3 : Int32) (h : pm_H), pw_F WX1_branchByTable h0 h → pm_iter sX1_branchByTable n (.inr (.inr (.inl (x0, x1, x2, x3, h)))) = some r → pw_F WX1_branchByTable h0 r) ∧ (∀ (x0 : Nat) (x1 : Int32) (x2 : Int32) (x3 : Int32) (x4 : Int32) (s0 : Int32) (h : pm_H), pw_F WX1_branchByTable h0 h → pm_iter sX1_branchByTable n (.inr (.inr (.inr (.inl (x0, x1, x2, x3, x4, s0, h))))) = some r → pw_F WX1_branchByTable h0 r) ∧ (∀ (x0 : Nat) (x1 : Int32) (x2 : Int32) (x3 : Int32) (x4 : Int32) (s0 : Int32) (s1 : Int32) (h : pm_H), pw_F WX1_branchByTable h0 h → pm_iter sX1_branchByTable n (.inr (.inr (.inr (.inr (.inl (x0, x1, x2, x3, x4, s0, s1, h)))))) = some r → pw_F WX1_branchByTable h0 r) ∧ (∀ (x0 : Nat) (x1 : Int32) (x2 : Int32) (x3 : Int32) (x4 : Int32) (h : pm_H), pw_F WX1_branchByTable h0 h → pm_iter sX1_branchByTable n (.inr (.inr (.inr (.inr (.inr (.inl (x0, x1, x2, x3, x4, h))))))) = some r → pw_F WX1_branchByTable h0 r) ∧ (∀ (x0 : Nat) (x1 : Int32) (x2 : Int32) (x3 : Int32) (x4 : Int32) (h : pm_H), pw_F WX1_branchByTable h0 h → pm_iter sX1_branchByTable n (.inr (.inr (.inr (.inr (.inr (.inr (.inl (x0, x1, x2, x3, x4, h)))))))) = some r → pw_F WX1_branchByTable h0 r) ∧ (∀ (x0 : Nat) (x1 : Int32) (x2 : Int32) (x3 : Int32) (h : pm_H), pw_F WX1_branchByTable h0 h → pm_iter sX1_branchByTable n (.inr (.inr (.inr (.inr (.inr (.inr (.inr (x0, x1, x2, x3, h)))))))) = some r → pw_F WX1_branchByTable h0 r) := by
  intro n
  induction n with
  | zero => exact ⟨fun _ _ _ hf => (by cases hf), fun _ _ _ _ _ _ hf => (by cases hf), fun _ _ _ _ _ _ hf => (by cases hf), fun _ _ _ _ _ _ _ _ hf => (by cases hf), fun _ _ _ _ _ _ _ _ _ hf => (by cases hf), fun _ _ _ _ _ _ _ hf => (by cases hf), fun _ _ _ _ _ _ _ hf => (by cases hf), fun _ _ _ _ _ _ hf => (by cases hf)⟩
  | succ n ih =>
    refine ⟨fun x0 h K0 hf => ?_, ?_⟩
    · obtain ⟨y, hf, hi⟩ := pm_iter_s hf
      have hf : tX1_branchByTable_0 x0 h = some y := hf
      unfold tX1_branchByTable_0 at hf
      obtain ⟨k1, hf⟩ := pm_if hf
      obtain ⟨v2, e3, hf⟩ := pm_bd hf
      obtain ⟨k4, hf⟩ := pm_if hf
      obtain ⟨y5, e6, hf⟩ := pm_lt hf
      obtain ⟨y7, e8, hf⟩ := pm_lt hf
      cases hf
      exact ih.2.1 x0 y5 0 0 (pm_setI h v2 1 y7) (pw_sI K0 rfl k4 (by decide))  hi
    refine ⟨fun x0 x1 x2 x3 h K0 hf => ?_, ?_⟩
    · obtain ⟨y, hf, hi⟩ := pm_iter_s hf
      have hf : tX1_branchByTable_28 x0 x1 x2 x3 h = some y := hf
      unfold tX1_branchByTable_28 at hf
      by_cases c9 : x1 < x3
      · have hf := pm_it hf c9
        obtain ⟨k10, hf⟩ := pm_if hf
        by_cases c11 : (pm_I h x0 0) = 0
        · have hf := pm_it hf c11
          obtain ⟨v12, e13, hf⟩ := pm_bd hf
          have K14 := pw_t (by decide) K0 (wfX1_take (pw_rf _) e13)
          obtain ⟨k15, hf⟩ := pm_if hf
          obtain ⟨v16, e17, hf⟩ := pm_bd hf
          have K18 := pw_t (by decide) K14 (wfX1_emit (pw_rf _) e17)
          obtain ⟨k19, hf⟩ := pm_if hf
          obtain ⟨v20, e21, hf⟩ := pm_bd hf
          obtain ⟨k22, hf⟩ := pm_if hf
          obtain ⟨y23, e24, hf⟩ := pm_lt hf
          cases hf
          exact ih.2.2.1 x0 x1 x2 0 (pm_setI v16.2 v20 1 y23) (pw_sI K18 rfl k22 (by decide))  hi
        · have hf := pm_ie hf c11
          have hf := Option.some.inj hf
          subst hf
          have hi := Option.some.inj (show some _ = some r from hi)
          subst hi
          exact K0
      · have hf := pm_ie hf c9
        obtain ⟨k25, hf⟩ := pm_if hf
        obtain ⟨v26, e27, hf⟩ := pm_bd hf
        obtain ⟨k28, hf⟩ := pm_if hf
        obtain ⟨v29, e30, hf⟩ := pm_bd hf
        have K31 := pw_t (by decide) K0 (wfX9_number (pw_rf _) e30)
        obtain ⟨k32, hf⟩ := pm_if hf
        by_cases c33 : v29.1 < ((pm_I v29.2 x0 10).toInt64)
        · have hf := pm_it hf c33
          obtain ⟨v34, e35, hf⟩ := pm_lt hf
          obtain ⟨y36, e37, hf⟩ := pm_lt hf
          obtain ⟨y38, e39, hf⟩ := pm_lt hf
          cases hf
          exact ih.2.1 x0 x1 y36 y38 v29.2 K31  hi
        · have hf := pm_ie hf c33
          obtain ⟨v40, e41, hf⟩ := pm_bd hf
          have K42 := pw_t (by decide) K31 (wfX1_fail (pw_rf _) e41)
          obtain ⟨k43, hf⟩ := pm_if hf
          obtain ⟨v44, e45, hf⟩ := pm_lt hf
          obtain ⟨y46, e47, hf⟩ := pm_lt hf
          obtain ⟨y48, e49, hf⟩ := pm_lt hf
          cases hf
          exact ih.2.1 x0 x1 y46 y48 v40 K42  hi
    refine ⟨fun x0 x1 x2 x3 h K0 hf => ?_, ?_⟩
    · obtain ⟨y, hf, hi⟩ := pm_iter_s hf
      have hf : tX1_branchByTable_122 x0 x1 x2 x3 h = some y := hf
      unfold tX1_branchByTable_122 at hf
      by_cases c50 : x1 < x3
      · have hf := pm_it hf c50
        obtain ⟨k51, hf⟩ := pm_if hf
        obtain ⟨v52, e53, hf⟩ := pm_bd hf
        have K54 := pw_t (by decide) K0 (wfX1_die (pw_rf _) e53)
        have hf := Option.some.inj hf
        subst hf
        have hi := Option.some.inj (show some _ = some r from hi)
        subst hi
        exact K54
      · have hf := pm_ie hf c50
        obtain ⟨k55, hf⟩ := pm_if hf
        by_cases c56 : (pm_I h x0 0) = 0
        · have hf := pm_it hf c56
          obtain ⟨v57, e58, hf⟩ := pm_bd hf
          obtain ⟨k59, hf⟩ := pm_if hf
          obtain ⟨v60, e61, hf⟩ := pm_bd hf
          have K62 := pw_t (by decide) K0 (wfX9_number (pw_rf _) e61)
          obtain ⟨y63, e64, hf⟩ := pm_lt hf
          obtain ⟨k65, hf⟩ := pm_if hf
          obtain ⟨v66, e67, hf⟩ := pm_bd hf
          have K68 := pw_t (by decide) K62 (wfX1_wantedCount (pw_rf _) e67)
          cases hf
          exact ih.2.2.2.1 x0 x1 x2 x3 y63 v66.1 v66.2 K68  hi
        · have hf := pm_ie hf c56
          obtain ⟨v69, e70, hf⟩ := pm_bd hf
          have K71 := pw_t (by decide) K0 (wfX1_die (pw_rf _) e70)
          have hf := Option.some.inj hf
          subst hf
          have hi := Option.some.inj (show some _ = some r from hi)
          subst hi
          exact K71
    refine ⟨fun x0 x1 x2 x3 x4 s0 h K0 hf => ?_, ?_⟩
    · obtain ⟨y, hf, hi⟩ := pm_iter_s hf
      have hf : tX1_branchByTable_159 x0 x1 x2 x3 x4 s0 h = some y := hf
      unfold tX1_branchByTable_159 at hf
      obtain ⟨k72, hf⟩ := pm_if hf
      obtain ⟨v73, e74, hf⟩ := pm_bd hf
      have K75 := pw_t (by decide) K0 (wfX1_wantedCount (pw_rf _) e74)
      cases hf
      exact ih.2.2.2.2.1 x0 x1 x2 x3 x4 v73.1 s0 v73.2 K75  hi
    refine ⟨fun x0 x1 x2 x3 x4 s0 s1 h K0 hf => ?_, ?_⟩
    · obtain ⟨y, hf, hi⟩ := pm_iter_s hf
      have hf : tX1_branchByTable_164 x0 x1 x2 x3 x4 s0 s1 h = some y := hf
      unfold tX1_branchByTable_164 at hf
      by_cases c76 : s1 = s0
      · have hf := pm_it hf c76
        by_cases c77 : x1 ≤ x3
        · have hf := pm_it hf c77
          obtain ⟨k78, hf⟩ := pm_if hf
          obtain ⟨v79, e80, hf⟩ := pm_bd hf
          have K81 := pw_t (by decide) K0 (wfX1_takeWanted (pw_rf _) e80)
          cases hf
          exact ih.2.2.2.2.2.1 x0 x1 x2 x3 x4 v79 K81  hi
        · have hf := pm_ie hf c77
          obtain ⟨k82, hf⟩ := pm_if hf
          obtain ⟨v83, e84, hf⟩ := pm_bd hf
          have K85 := pw_t (by decide) K0 (wfX1_takeAndPutAgain (pw_rf _) e84)
          cases hf
          exact ih.2.2.2.2.2.2.1 x0 x1 x2 x3 x4 v83 K85  hi
      · have hf := pm_ie hf c76
        obtain ⟨k86, hf⟩ := pm_if hf
        obtain ⟨v87, e88, hf⟩ := pm_bd hf
        have K89 := pw_t (by decide) K0 (wfX1_fail (pw_rf _) e88)
        cases hf
        exact ih.2.2.2.2.2.1 x0 x1 x2 x3 x4 v87 K89  hi
    refine ⟨fun x0 x1 x2 x3 x4 h K0 hf => ?_, ?_⟩
    · obtain ⟨y, hf, hi⟩ := pm_iter_s hf
      have hf : tX1_branchByTable_196 x0 x1 x2 x3 x4 h = some y := hf
      unfold tX1_branchByTable_196 at hf
      obtain ⟨k90, hf⟩ := pm_if hf
      obtain ⟨v91, e92, hf⟩ := pm_bd hf
      have K93 := pw_t (by decide) K0 (wfX1_emitBranch (pw_rf _) e92)
      cases hf
      exact ih.2.2.2.2.2.2.2 x0 x1 x2 x3 v91 K93  hi
    refine ⟨fun x0 x1 x2 x3 x4 h K0 hf => ?_, ?_⟩
    · obtain ⟨y, hf, hi⟩ := pm_iter_s hf
      have hf : tX1_branchByTable_187 x0 x1 x2 x3 x4 h = some y := hf
      unfold tX1_branchByTable_187 at hf
      cases hf
      exact ih.2.2.2.2.2.1 x0 x1 x2 x3 x4 h K0  hi
    refine fun x0 x1 x2 x3 h K0 hf => ?_
    obtain ⟨y, hf, hi⟩ := pm_iter_s hf
    have hf : tX1_branchByTable_204 x0 x1 x2 x3 h = some y := hf
    unfold tX1_branchByTable_204 at hf
    obtain ⟨y94, e95, hf⟩ := pm_lt hf
    cases hf
    exact ih.2.2.1 x0 x1 x2 y94 h K0  hi
set_option maxHeartbeats 4000000 in
set_option maxRecDepth 100000 in
theorem wfX1_branchByTable {h0 h : pm_H} (K0 : pw_F WX1_branchByTable h0 h) {a0 : Nat}  {r : pm_H} (hf : fX1_branchByTable h a0 = some r) : pw_F WX1_branchByTable h0 r := by
  unfold fX1_branchByTable at hf
  obtain ⟨n, hn⟩ := pm_lim_iter hf
  exact (wlX1_branchByTable n).1 a0 h K0  hn
abbrev WX1_control : List Nat := [2, 128, 129, 134, 138, 1153, 1155, 1156, 4352]
set_option maxHeartbeats 4000000 in
set_option maxRecDepth 100000 in
theorem wfX1_control_b178 {h0 h : pm_H} (K0 : pw_F WX1_control h0 h)   {r : pm_H} (hf : fX1_control_b178 h  = some r) : pw_F WX1_control h0 r := by
  unfold fX1_control_b178 at hf
  have hf := Option.some.inj hf
  subst hf
  exact K0
set_option maxHeartbeats 4000000 in
set_option maxRecDepth 100000 in
theorem wfX1_control_b171 {h0 h : pm_H} (K0 : pw_F WX1_control h0 h)   {r : pm_H} (hf : fX1_control_b171 h  = some r) : pw_F WX1_control h0 r := by
  unfold fX1_control_b171 at hf
  exact wfX1_control_b178 K0  hf
set_option maxHeartbeats 4000000 in
set_option maxRecDepth 100000 in
theorem wfX1_control_b160 {h0 h : pm_H} (K0 : pw_F WX1_control h0 h) {x0 : Nat}  {r : pm_H} (hf : fX1_control_b160 h x0 = some r) : pw_F WX1_control h0 r := by
  unfold fX1_control_b160 at hf
  obtain ⟨k104, hf⟩ := pm_if hf
  obtain ⟨v105, e106, hf⟩ := pm_bd hf
  have K107 := pw_t (by decide) K0 (wfX1_die (pw_rf _) e106)
  exact wfX1_control_b178 K107  hf
set_option maxHeartbeats 4000000 in
set_option maxRecDepth 100000 in
theorem wfX1_control_b153 {h0 h : pm_H} (K0 : pw_F WX1_control h0 h) {x0 : Nat}  {r : pm_H} (hf : fX1_control_b153 h x0 = some r) : pw_F WX1_control h0 r := by
  unfold fX1_control_b153 at hf
  obtain ⟨k100, hf⟩ := pm_if hf
  obtain ⟨v101, e102, hf⟩ := pm_bd hf
  have K103 := pw_t (by decide) K0 (wfX1_emitBranch (pw_rf _) e102)
  exact wfX1_control_b160 K103  hf
set_option maxHeartbeats 4000000 in
set_option maxRecDepth 100000 in
theorem wfX1_control_b145 {h0 h : pm_H} (K0 : pw_F WX1_control h0 h)   {r : pm_H} (hf : fX1_control_b145 h  = some r) : pw_F WX1_control h0 r := by
  unfold fX1_control_b145 at hf
  exact wfX1_control_b178 K0  hf
set_option maxHeartbeats 4000000 in
set_option maxRecDepth 100000 in
theorem wfX1_control_b138 {h0 h : pm_H} (K0 : pw_F WX1_control h0 h)   {r : pm_H} (hf : fX1_control_b138 h  = some r) : pw_F WX1_control h0 r := by
  unfold fX1_control_b138 at hf
  exact wfX1_control_b178 K0  hf
set_option maxHeartbeats 4000000 in
set_option maxRecDepth 100000 in
theorem wfX1_control_b124 {h0 h : pm_H} (K0 : pw_F WX1_control h0 h)   {r : pm_H} (hf : fX1_control_b124 h  = some r) : pw_F WX1_control h0 r := by
  unfold fX1_control_b124 at hf
  exact wfX1_control_b178 K0  hf
set_option maxHeartbeats 4000000 in
set_option maxRecDepth 100000 in
theorem wfX1_control_b117 {h0 h : pm_H} (K0 : pw_F WX1_control h0 h)   {r : pm_H} (hf : fX1_control_b117 h  = some r) : pw_F WX1_control h0 r := by
  unfold fX1_control_b117 at hf
  exact wfX1_control_b178 K0  hf
set_option maxHeartbeats 4000000 in
set_option maxRecDepth 100000 in
theorem wfX1_control_b110 {h0 h : pm_H} (K0 : pw_F WX1_control h0 h)   {r : pm_H} (hf : fX1_control_b110 h  = some r) : pw_F WX1_control h0 r := by
  unfold fX1_control_b110 at hf
  exact wfX1_control_b178 K0  hf
set_option maxHeartbeats 4000000 in
set_option maxRecDepth 100000 in
theorem wfX1_control_b0 {h0 h : pm_H} (K0 : pw_F WX1_control h0 h) {x0 : Nat} {x1 : Int32}  {r : pm_H} (hf : fX1_control_b0 h x0 x1 = some r) : pw_F WX1_control h0 r := by
  unfold fX1_control_b0 at hf
  by_cases c1 : x1 = 0
  · have hf := pm_it hf c1
    obtain ⟨k2, hf⟩ := pm_if hf
    obtain ⟨v3, e4, hf⟩ := pm_bd hf
    have K5 := pw_t (by decide) K0 (wfX1_emitPlain (pw_rf _) e4)
    obtain ⟨k6, hf⟩ := pm_if hf
    obtain ⟨v7, e8, hf⟩ := pm_bd hf
    have K9 := pw_t (by decide) K5 (wfX1_die (pw_rf _) e8)
    exact wfX1_control_b178 K9  hf
  have hf := pm_ie hf c1
  by_cases c10 : x1 = 1
  · have hf := pm_it hf c10
    obtain ⟨k11, hf⟩ := pm_if hf
    obtain ⟨v12, e13, hf⟩ := pm_bd hf
    have K14 := pw_t (by decide) K0 (wfX1_emitPlain (pw_rf _) e13)
    exact wfX1_control_b178 K14  hf
  have hf := pm_ie hf c10
  by_cases c15 : x1 = 2
  · have hf := pm_it hf c15
    obtain ⟨k16, hf⟩ := pm_if hf
    obtain ⟨v17, e18, hf⟩ := pm_bd hf
    have K19 := pw_t (by decide) K0 (wfX1_beginBlock (pw_rf _) e18)
    exact wfX1_control_b110 K19  hf
  have hf := pm_ie hf c15
  by_cases c20 : x1 = 3
  · have hf := pm_it hf c20
    obtain ⟨k21, hf⟩ := pm_if hf
    obtain ⟨v22, e23, hf⟩ := pm_bd hf
    have K24 := pw_t (by decide) K0 (wfX1_beginBlock (pw_rf _) e23)
    exact wfX1_control_b110 K24  hf
  have hf := pm_ie hf c20
  by_cases c25 : x1 = 4
  · have hf := pm_it hf c25
    obtain ⟨k26, hf⟩ := pm_if hf
    obtain ⟨v27, e28, hf⟩ := pm_bd hf
    have K29 := pw_t (by decide) K0 (wfX1_beginBlock (pw_rf _) e28)
    exact wfX1_control_b110 K29  hf
  have hf := pm_ie hf c25
  by_cases c30 : x1 = 5
  · have hf := pm_it hf c30
    obtain ⟨k31, hf⟩ := pm_if hf
    obtain ⟨v32, e33, hf⟩ := pm_bd hf
    have K34 := pw_t (by decide) K0 (wfX1_otherwise (pw_rf _) e33)
    exact wfX1_control_b117 K34  hf
  have hf := pm_ie hf c30
  by_cases c35 : x1 = 6
  · have hf := pm_it hf c35
    obtain ⟨k36, hf⟩ := pm_if hf
    obtain ⟨v37, e38, hf⟩ := pm_bd hf
    have K39 := pw_t (by decide) K0 (wfX1_callByTable (pw_rf _) e38)
    exact wfX1_control_b178 K39  hf
  have hf := pm_ie hf c35
  by_cases c40 : x1 = 7
  · have hf := pm_it hf c40
    obtain ⟨k41, hf⟩ := pm_if hf
    obtain ⟨v42, e43, hf⟩ := pm_bd hf
    have K44 := pw_t (by decide) K0 (wfX1_callByTable (pw_rf _) e43)
    exact wfX1_control_b178 K44  hf
  have hf := pm_ie hf c40
  by_cases c45 : x1 = 8
  · have hf := pm_it hf c45
    obtain ⟨k46, hf⟩ := pm_if hf
    obtain ⟨v47, e48, hf⟩ := pm_bd hf
    have K49 := pw_t (by decide) K0 (wfX1_callByTable (pw_rf _) e48)
    exact wfX1_control_b178 K49  hf
  have hf := pm_ie hf c45
  by_cases c50 : x1 = 9
  · have hf := pm_it hf c50
    obtain ⟨k51, hf⟩ := pm_if hf
    obtain ⟨v52, e53, hf⟩ := pm_bd hf
    have K54 := pw_t (by decide) K0 (wfX1_callByTable (pw_rf _) e53)
    exact wfX1_control_b178 K54  hf
  have hf := pm_ie hf c50
  by_cases c55 : x1 = 10
  · have hf := pm_it hf c55
    obtain ⟨k56, hf⟩ := pm_if hf
    obtain ⟨v57, e58, hf⟩ := pm_bd hf
    have K59 := pw_t (by decide) K0 (wfX1_callByTable (pw_rf _) e58)
    exact wfX1_control_b178 K59  hf
  have hf := pm_ie hf c55
  by_cases c60 : x1 = 11
  · have hf := pm_it hf c60
    obtain ⟨k61, hf⟩ := pm_if hf
    obtain ⟨v62, e63, hf⟩ := pm_bd hf
    have K64 := pw_t (by decide) K0 (wfX1_endBlock (pw_rf _) e63)
    exact wfX1_control_b124 K64  hf
  have hf := pm_ie hf c60
  by_cases c65 : x1 = 12
  · have hf := pm_it hf c65
    obtain ⟨k66, hf⟩ := pm_if hf
    obtain ⟨v67, e68, hf⟩ := pm_bd hf
    obtain ⟨k69, hf⟩ := pm_if hf
    obtain ⟨v70, e71, hf⟩ := pm_bd hf
    have K72 := pw_t (by decide) K0 (wfX1_branch (pw_rf _) e71)
    exact wfX1_control_b138 K72  hf
  have hf := pm_ie hf c65
  by_cases c73 : x1 = 13
  · have hf := pm_it hf c73
    obtain ⟨k74, hf⟩ := pm_if hf
    obtain ⟨v75, e76, hf⟩ := pm_bd hf
    obtain ⟨k77, hf⟩ := pm_if hf
    obtain ⟨v78, e79, hf⟩ := pm_bd hf
    have K80 := pw_t (by decide) K0 (wfX1_branch (pw_rf _) e79)
    exact wfX1_control_b138 K80  hf
  have hf := pm_ie hf c73
  by_cases c81 : x1 = 14
  · have hf := pm_it hf c81
    obtain ⟨k82, hf⟩ := pm_if hf
    obtain ⟨v83, e84, hf⟩ := pm_bd hf
    have K85 := pw_t (by decide) K0 (wfX1_branchByTable (pw_rf _) e84)
    exact wfX1_control_b145 K85  hf
  have hf := pm_ie hf c81
  by_cases c86 : x1 = 15
  · have hf := pm_it hf c86
    obtain ⟨k87, hf⟩ := pm_if hf
    obtain ⟨v88, e89, hf⟩ := pm_bd hf
    have K90 := pw_t (by decide) K0 (wfX1_takeWanted (pw_rf _) e89)
    exact wfX1_control_b153 K90  hf
  have hf := pm_ie hf c86
  by_cases c91 : x1 = 16
  · have hf := pm_it hf c91
    obtain ⟨k92, hf⟩ := pm_if hf
    obtain ⟨v93, e94, hf⟩ := pm_bd hf
    have K95 := pw_t (by decide) K0 (wfX1_callDirectly (pw_rf _) e94)
    exact wfX1_control_b171 K95  hf
  have hf := pm_ie hf c91
  obtain ⟨k96, hf⟩ := pm_if hf
  obtain ⟨v97, e98, hf⟩ := pm_bd hf
  have K99 := pw_t (by decide) K0 (wfX1_callByTable (pw_rf _) e98)
  exact wfX1_control_b178 K99  hf
set_option maxHeartbeats 4000000 in
set_option maxRecDepth 100000 in
theorem wfX1_control {h0 h : pm_H} (K0 : pw_F WX1_control h0 h) {a0 : Nat} {p1 : Int32}  {r : pm_H} (hf : fX1_control h a0 p1 = some r) : pw_F WX1_control h0 r := by
  unfold fX1_control at hf
  exact wfX1_control_b0 K0  hf
abbrev WJ7_copyOf_59c91 : List Nat := [4352]
set_option maxHeartbeats 4000000 in
set_option maxRecDepth 100000 in
theorem wfJ7_copyOf_59c91_b10 {h0 h : pm_H} (K0 : pw_F WJ7_copyOf_59c91 h0 h) {s0 : Nat}  {r : (Nat × pm_H)} (hf : fJ7_copyOf_59c91_b10 h s0 = some r) : pw_F WJ7_copyOf_59c91 h0 r.2 := by
  unfold fJ7_copyOf_59c91_b10 at hf
  obtain ⟨k4, hf⟩ := pm_if hf
  have hf := Option.some.inj hf
  subst hf
  exact K0
set_option maxHeartbeats 4000000 in
set_option maxRecDepth 100000 in
theorem wfJ7_copyOf_59c91_b17 {h0 h : pm_H} (K0 : pw_F WJ7_copyOf_59c91 h0 h) {x0 : Nat} {x1 : Int32} {s0 : Nat}  {r : (Nat × pm_H)} (hf : fJ7_copyOf_59c91_b17 h x0 x1 s0 = some r) : pw_F WJ7_copyOf_59c91 h0 r.2 := by
  unfold fJ7_copyOf_59c91_b17 at hf
  obtain ⟨k5, hf⟩ := pm_if hf
  obtain ⟨k6, hf⟩ := pm_if hf
  obtain ⟨u7, hf⟩ := pm_if hf
  have hf := Option.some.inj hf
  subst hf
  exact (pw_cpI K0 rfl k6 (by decide) (by decide))
set_option maxHeartbeats 4000000 in
set_option maxRecDepth 100000 in
theorem wfJ7_copyOf_59c91_b0 {h0 h : pm_H} (K0 : pw_F WJ7_copyOf_59c91 h0 h) {x0 : Nat} {x1 : Int32}  {r : (Nat × pm_H)} (hf : fJ7_copyOf_59c91_b0 h x0 x1 = some r) : pw_F WJ7_copyOf_59c91 h0 r.2 := by
  unfold fJ7_copyOf_59c91_b0 at hf
  obtain ⟨k1, hf⟩ := pm_if hf
  by_cases c2 : x1 = (Int32.ofNat (pm_ln h x0))
  · have hf := pm_it hf c2
    exact wfJ7_copyOf_59c91_b10 (pw_clo K0)  hf
  · have hf := pm_ie hf c2
    obtain ⟨u3, hf⟩ := pm_if hf
    exact wfJ7_copyOf_59c91_b17 (pw_new K0)  hf
set_option maxHeartbeats 4000000 in
set_option maxRecDepth 100000 in
theorem wfJ7_copyOf_59c91 {h0 h : pm_H} (K0 : pw_F WJ7_copyOf_59c91 h0 h) {p1 : Nat} {p2 : Int32}  {r : (Nat × pm_H)} (hf : fJ7_copyOf_59c91 h p1 p2 = some r) : pw_F WJ7_copyOf_59c91 h0 r.2 := by
  unfold fJ7_copyOf_59c91 at hf
  exact wfJ7_copyOf_59c91_b0 K0  hf
abbrev WJ7_copyOf_9075b : List Nat := [4224]
set_option maxHeartbeats 4000000 in
set_option maxRecDepth 100000 in
theorem wfJ7_copyOf_9075b_b10 {h0 h : pm_H} (K0 : pw_F WJ7_copyOf_9075b h0 h) {s0 : Nat}  {r : (Nat × pm_H)} (hf : fJ7_copyOf_9075b_b10 h s0 = some r) : pw_F WJ7_copyOf_9075b h0 r.2 := by
  unfold fJ7_copyOf_9075b_b10 at hf
  obtain ⟨k5, hf⟩ := pm_if hf
  have hf := Option.some.inj hf
  subst hf
  exact K0
set_option maxHeartbeats 4000000 in
set_option maxRecDepth 100000 in
theorem wfJ7_copyOf_9075b_b17 {h0 h : pm_H} (K0 : pw_F WJ7_copyOf_9075b h0 h) {x0 : Nat} {x1 : Int32} {s0 : Nat}  {r : (Nat × pm_H)} (hf : fJ7_copyOf_9075b_b17 h x0 x1 s0 = some r) : pw_F WJ7_copyOf_9075b h0 r.2 := by
  unfold fJ7_copyOf_9075b_b17 at hf
  obtain ⟨k6, hf⟩ := pm_if hf
  obtain ⟨k7, hf⟩ := pm_if hf
  obtain ⟨u8, hf⟩ := pm_if hf
  obtain ⟨u9, hf⟩ := pm_if hf
  have hf := Option.some.inj hf
  subst hf
  exact (pw_cpI K0 rfl k7 (by decide) (by decide))
set_option maxHeartbeats 4000000 in
set_option maxRecDepth 100000 in
theorem wfJ7_copyOf_9075b_b0 {h0 h : pm_H} (K0 : pw_F WJ7_copyOf_9075b h0 h) {x0 : Nat} {x1 : Int32}  {r : (Nat × pm_H)} (hf : fJ7_copyOf_9075b_b0 h x0 x1 = some r) : pw_F WJ7_copyOf_9075b h0 r.2 := by
  unfold fJ7_copyOf_9075b_b0 at hf
  obtain ⟨k1, hf⟩ := pm_if hf
  by_cases c2 : x1 = (Int32.ofNat (pm_ln h x0))
  · have hf := pm_it hf c2
    obtain ⟨u3, hf⟩ := pm_if hf
    exact wfJ7_copyOf_9075b_b10 (pw_clo K0)  hf
  · have hf := pm_ie hf c2
    obtain ⟨u4, hf⟩ := pm_if hf
    exact wfJ7_copyOf_9075b_b17 (pw_new K0)  hf
set_option maxHeartbeats 4000000 in
set_option maxRecDepth 100000 in
theorem wfJ7_copyOf_9075b {h0 h : pm_H} (K0 : pw_F WJ7_copyOf_9075b h0 h) {p1 : Nat} {p2 : Int32}  {r : (Nat × pm_H)} (hf : fJ7_copyOf_9075b h p1 p2 = some r) : pw_F WJ7_copyOf_9075b h0 r.2 := by
  unfold fJ7_copyOf_9075b at hf
  exact wfJ7_copyOf_9075b_b0 K0  hf
abbrev WJ7_copyOf_c38d5 : List Nat := [4480]
set_option maxHeartbeats 4000000 in
set_option maxRecDepth 100000 in
theorem wfJ7_copyOf_c38d5_b10 {h0 h : pm_H} (K0 : pw_F WJ7_copyOf_c38d5 h0 h) {s0 : Nat}  {r : (Nat × pm_H)} (hf : fJ7_copyOf_c38d5_b10 h s0 = some r) : pw_F WJ7_copyOf_c38d5 h0 r.2 := by
  unfold fJ7_copyOf_c38d5_b10 at hf
  obtain ⟨k4, hf⟩ := pm_if hf
  have hf := Option.some.inj hf
  subst hf
  exact K0
set_option maxHeartbeats 4000000 in
set_option maxRecDepth 100000 in
theorem wfJ7_copyOf_c38d5_b17 {h0 h : pm_H} (K0 : pw_F WJ7_copyOf_c38d5 h0 h) {x0 : Nat} {x1 : Int32} {s0 : Nat}  {r : (Nat × pm_H)} (hf : fJ7_copyOf_c38d5_b17 h x0 x1 s0 = some r) : pw_F WJ7_copyOf_c38d5 h0 r.2 := by
  unfold fJ7_copyOf_c38d5_b17 at hf
  obtain ⟨k5, hf⟩ := pm_if hf
  obtain ⟨k6, hf⟩ := pm_if hf
  obtain ⟨u7, hf⟩ := pm_if hf
  have hf := Option.some.inj hf
  subst hf
  exact (pw_cpL K0 rfl k6 (by decide) (by decide))
set_option maxHeartbeats 4000000 in
set_option maxRecDepth 100000 in
theorem wfJ7_copyOf_c38d5_b0 {h0 h : pm_H} (K0 : pw_F WJ7_copyOf_c38d5 h0 h) {x0 : Nat} {x1 : Int32}  {r : (Nat × pm_H)} (hf : fJ7_copyOf_c38d5_b0 h x0 x1 = some r) : pw_F WJ7_copyOf_c38d5 h0 r.2 := by
  unfold fJ7_copyOf_c38d5_b0 at hf
  obtain ⟨k1, hf⟩ := pm_if hf
  by_cases c2 : x1 = (Int32.ofNat (pm_ln h x0))
  · have hf := pm_it hf c2
    exact wfJ7_copyOf_c38d5_b10 (pw_clo K0)  hf
  · have hf := pm_ie hf c2
    obtain ⟨u3, hf⟩ := pm_if hf
    exact wfJ7_copyOf_c38d5_b17 (pw_new K0)  hf
set_option maxHeartbeats 4000000 in
set_option maxRecDepth 100000 in
theorem wfJ7_copyOf_c38d5 {h0 h : pm_H} (K0 : pw_F WJ7_copyOf_c38d5 h0 h) {p1 : Nat} {p2 : Int32}  {r : (Nat × pm_H)} (hf : fJ7_copyOf_c38d5 h p1 p2 = some r) : pw_F WJ7_copyOf_c38d5 h0 r.2 := by
  unfold fJ7_copyOf_c38d5 at hf
  exact wfJ7_copyOf_c38d5_b0 K0  hf
abbrev WX2_compile : List Nat := [6, 7, 8, 256, 257, 258, 259, 260, 261, 262, 263, 264, 265, 267, 268, 4096, 4352, 4480]
set_option maxHeartbeats 4000000 in
set_option maxRecDepth 100000 in
theorem wlX2_compile {h0 : pm_H} {r : pm_H} : ∀ n : Nat, (∀ (x0 : Nat) (x1 : Nat) (h : pm_H), pw_F WX2_compile h0 h → pm_iter sX2_compile n (.inl (x0, x1, h)) = some r → pw_F WX2_compile h0 r) ∧ (∀ (x0 : Nat) (x1 : Nat) (s0 : Nat) (s1 : Nat) (h : pm_H), pw_F WX2_compile h0 h → pm_iter sX2_compile n (.inr (.inl (x0, x1, s0, s1, h))) = some r → pw_F WX2_compile h0 r) ∧ (∀ (x0 : Nat) (x1 : Nat) (s0 : Nat) (s1 : Nat) (h : pm_H), pw_F WX2_compile h0 h → pm_iter sX2_compile n (.inr (.inr (.inl (x0, x1, s0, s1, h)))) = some r → pw_F WX2_compile h0 r) ∧ (∀ (x0 : Nat) (x1 : Nat) (s0 : Nat) (s1 : Nat) (h : pm_H), pw_F WX2_compile h0 h → pm_iter sX2_compile n (.inr (.inr (.inr (.inl (x0, x1, s0, s1, h))))) = some r → pw_F WX2_compile h0 r) ∧ (∀ (x0 : Nat) (x1 : Nat) (s0 : Nat) (s1 : Nat) (h : pm_H), pw_F WX2_compile h0 h → pm_iter sX2_compile n (.inr (.inr (.inr (.inr (.inl (x0, x1, s0, s1, h)))))) = some r → pw_F WX2_compile h0 r) ∧ (∀ (x0 : Nat) (x1 : Nat) (x3 : Int32) (h : pm_H), pw_F WX2_compile h0 h → pm_iter sX2_compile n (.inr (.inr (.inr (.inr (.inr (.inl (x0, x1, x3, h))))))) = some r → pw_F WX2_compile h0 r) ∧ (∀ (x0 : Nat) (x1 : Nat) (s0 : Nat) (s1 : Nat) (h : pm_H), pw_F WX2_compile h0 h → pm_iter sX2_compile n (.inr (.inr (.inr (.inr (.inr (.inr (.inl (x0, x1, s0, s1, h)))))))) = some r → pw_F WX2_compile h0 r) ∧ (∀ (s0 : Nat) (s1 : Nat) (h : pm_H), pw_F WX2_compile h0 h → pm_iter sX2_compile n (.inr (.inr (.inr (.inr (.inr (.inr (.inr (s0, s1, h)))))))) = some r → pw_F WX2_compile h0 r) := by
  intro n
  induction n with
  | zero => exact ⟨fun _ _ _ _ hf => (by cases hf), fun _ _ _ _ _ _ hf => (by cases hf), fun _ _ _ _ _ _ hf => (by cases hf), fun _ _ _ _ _ _ hf => (by cases hf), fun _ _ _ _ _ _ hf => (by cases hf), fun _ _ _ _ _ hf => (by cases hf), fun _ _ _ _ _ _ hf => (by cases hf), fun _ _ _ _ hf => (by cases hf)⟩
  | succ n ih =>
    refine ⟨fun x0 x1 h K0 hf => ?_, ?_⟩
    · obtain ⟨y, hf, hi⟩ := pm_iter_s hf
      have hf : tX2_compile_0 x0 x1 h = some y := hf
      unfold tX2_compile_0 at hf
      obtain ⟨k1, hf⟩ := pm_if hf
      obtain ⟨y2, e3, hf⟩ := pm_lt hf
      obtain ⟨k4, hf⟩ := pm_if hf
      have k4b := (congrFun (pkI rfl) x0).symm.trans k4
      by_cases c5 : y2 ≤ (pm_I (pm_setI h x1 6 1) x0 0)
      · have hf := pm_it hf c5
        obtain ⟨y6, e7, hf⟩ := pm_lt hf
        obtain ⟨y8, e9, hf⟩ := pm_lt hf
        obtain ⟨u10, hf⟩ := pm_if hf
        cases hf
        exact ih.2.1 x0 x1 (pm_sz (pm_setI (pm_setR (pm_setI h x1 6 1) x0 1 (some x1)) x0 2 y6)) x0 (pm_new (pm_setI (pm_setR (pm_setI h x1 6 1) x0 1 (some x1)) x0 2 y6) 34 y8.toNatClampNeg) (pw_new (pw_sI (pw_sR (pw_sI K0 rfl k1 (by decide)) (pkI rfl) k4b (by decide)) (pkR (pkI rfl)) k4b (by decide)))  hi
      · have hf := pm_ie hf c5
        have hf := Option.some.inj hf
        subst hf
        have hi := Option.some.inj (show some _ = some r from hi)
        subst hi
        exact (pw_sI K0 rfl k1 (by decide))
    refine ⟨fun x0 x1 s0 s1 h K0 hf => ?_, ?_⟩
    · obtain ⟨y, hf, hi⟩ := pm_iter_s hf
      have hf : tX2_compile_43 x0 x1 s0 s1 h = some y := hf
      unfold tX2_compile_43 at hf
      obtain ⟨k11, hf⟩ := pm_if hf
      obtain ⟨k12, hf⟩ := pm_if hf
      have k12b := (congrFun (pkR rfl) x1).symm.trans k12
      obtain ⟨y13, e14, hf⟩ := pm_lt hf
      obtain ⟨u15, hf⟩ := pm_if hf
      cases hf
      exact ih.2.2.1 x0 x1 (pm_sz (pm_setR h s1 3 (some s0))) x0 (pm_new (pm_setR h s1 3 (some s0)) 35 y13.toNatClampNeg) (pw_new (pw_sR K0 rfl k11 (by decide)))  hi
    refine ⟨fun x0 x1 s0 s1 h K0 hf => ?_, ?_⟩
    · obtain ⟨y, hf, hi⟩ := pm_iter_s hf
      have hf : tX2_compile_53 x0 x1 s0 s1 h = some y := hf
      unfold tX2_compile_53 at hf
      obtain ⟨k16, hf⟩ := pm_if hf
      obtain ⟨k17, hf⟩ := pm_if hf
      have k17b := (congrFun (pkR rfl) x1).symm.trans k17
      obtain ⟨y18, e19, hf⟩ := pm_lt hf
      obtain ⟨u20, hf⟩ := pm_if hf
      cases hf
      exact ih.2.2.2.1 x0 x1 (pm_sz (pm_setR h s1 6 (some s0))) x0 (pm_new (pm_setR h s1 6 (some s0)) 34 y18.toNatClampNeg) (pw_new (pw_sR K0 rfl k16 (by decide)))  hi
    refine ⟨fun x0 x1 s0 s1 h K0 hf => ?_, ?_⟩
    · obtain ⟨y, hf, hi⟩ := pm_iter_s hf
      have hf : tX2_compile_63 x0 x1 s0 s1 h = some y := hf
      unfold tX2_compile_63 at hf
      obtain ⟨k21, hf⟩ := pm_if hf
      obtain ⟨k22, hf⟩ := pm_if hf
      have k22b := (congrFun (pkR rfl) x1).symm.trans k22
      obtain ⟨y23, e24, hf⟩ := pm_lt hf
      obtain ⟨u25, hf⟩ := pm_if hf
      cases hf
      exact ih.2.2.2.2.1 x0 x1 (pm_sz (pm_setR h s1 8 (some s0))) x0 (pm_new (pm_setR h s1 8 (some s0)) 32 y23.toNatClampNeg) (pw_new (pw_sR K0 rfl k21 (by decide)))  hi
    refine ⟨fun x0 x1 s0 s1 h K0 hf => ?_, ?_⟩
    · obtain ⟨y, hf, hi⟩ := pm_iter_s hf
      have hf : tX2_compile_73 x0 x1 s0 s1 h = some y := hf
      unfold tX2_compile_73 at hf
      obtain ⟨k26, hf⟩ := pm_if hf
      obtain ⟨k27, hf⟩ := pm_if hf
      have k27b := (congrFun (pkR rfl) x0).symm.trans k27
      obtain ⟨v28, e29, hf⟩ := pm_bd hf
      have K30 := pw_t (by decide) (pw_sI (pw_sI (pw_sI (pw_sI (pw_sI (pw_sR K0 rfl k26 (by decide)) (pkR rfl) k27b (by decide)) (pkI (pkR rfl)) k27b (by decide)) (pkI (pkI (pkR rfl))) k27b (by decide)) (pkI (pkI (pkI (pkR rfl)))) k27b (by decide)) (pkI (pkI (pkI (pkI (pkR rfl))))) k27b (by decide)) (wfX2_markTargets (pw_rf _) e29)
      cases hf
      exact ih.2.2.2.2.2.1 x0 x1 0 v28 K30  hi
    refine ⟨fun x0 x1 x3 h K0 hf => ?_, ?_⟩
    · obtain ⟨y, hf, hi⟩ := pm_iter_s hf
      have hf : tX2_compile_107 x0 x1 x3 h = some y := hf
      unfold tX2_compile_107 at hf
      obtain ⟨k31, hf⟩ := pm_if hf
      by_cases c32 : (pm_I h x1 2) ≤ x3
      · have hf := pm_it hf c32
        obtain ⟨k33, hf⟩ := pm_if hf
        by_cases c34 : (pm_I h x0 5) = 0
        · have hf := pm_it hf c34
          obtain ⟨v35, e36, hf⟩ := pm_bd hf
          have K37 := pw_t (by decide) K0 (wfX2_aimBranches (pw_rf _) e36)
          obtain ⟨k38, hf⟩ := pm_if hf
          obtain ⟨y39, e40, hf⟩ := pm_lt hf
          obtain ⟨v41, e42, hf⟩ := pm_bd hf
          obtain ⟨v43, e44, hf⟩ := pm_bd hf
          have K45 := pw_t (by decide) (pw_sI K37 rfl k38 (by decide)) (wfJ7_copyOf_59c91 (pw_rf _) e44)
          cases hf
          exact ih.2.2.2.2.2.2.1 x0 x1 v43.1 x1 v43.2 K45  hi
        · have hf := pm_ie hf c34
          have hf := Option.some.inj hf
          subst hf
          have hi := Option.some.inj (show some _ = some r from hi)
          subst hi
          exact K0
      · have hf := pm_ie hf c32
        obtain ⟨k46, hf⟩ := pm_if hf
        obtain ⟨v47, e48, hf⟩ := pm_bd hf
        have K49 := pw_t (by decide) K0 (wfX2_translate (pw_rf _) e48)
        obtain ⟨y50, e51, hf⟩ := pm_lt hf
        obtain ⟨y52, e53, hf⟩ := pm_lt hf
        cases hf
        exact ih.2.2.2.2.2.1 x0 x1 y52 v47.2 K49  hi
    refine ⟨fun x0 x1 s0 s1 h K0 hf => ?_, ?_⟩
    · obtain ⟨y, hf, hi⟩ := pm_iter_s hf
      have hf : tX2_compile_169 x0 x1 s0 s1 h = some y := hf
      unfold tX2_compile_169 at hf
      obtain ⟨k54, hf⟩ := pm_if hf
      obtain ⟨k55, hf⟩ := pm_if hf
      have k55b := (congrFun (pkR rfl) x0).symm.trans k55
      obtain ⟨v56, e57, hf⟩ := pm_bd hf
      obtain ⟨v58, e59, hf⟩ := pm_bd hf
      have K60 := pw_t (by decide) (pw_sR K0 rfl k54 (by decide)) (wfJ7_copyOf_c38d5 (pw_rf _) e59)
      cases hf
      exact ih.2.2.2.2.2.2.2 v58.1 x1 v58.2 K60  hi
    refine fun s0 s1 h K0 hf => ?_
    obtain ⟨y, hf, hi⟩ := pm_iter_s hf
    have hf : tX2_compile_184 s0 s1 h = some y := hf
    unfold tX2_compile_184 at hf
    obtain ⟨k61, hf⟩ := pm_if hf
    have hf := Option.some.inj hf
    subst hf
    have hi := Option.some.inj (show some _ = some r from hi)
    subst hi
    exact (pw_sR K0 rfl k61 (by decide))
set_option maxHeartbeats 4000000 in
set_option maxRecDepth 100000 in
theorem wfX2_compile {h0 h : pm_H} (K0 : pw_F WX2_compile h0 h) {a0 : Nat} {p1 : Nat}  {r : pm_H} (hf : fX2_compile h a0 p1 = some r) : pw_F WX2_compile h0 r := by
  unfold fX2_compile at hf
  obtain ⟨n, hn⟩ := pm_lim_iter hf
  exact (wlX2_compile n).1 a0 p1 h K0  hn
abbrev WX5_settle : List Nat := [6, 7, 8, 256, 257, 258, 259, 260, 261, 262, 263, 264, 265, 267, 268, 386, 387, 389, 390, 391, 640, 643, 647, 652, 653, 654, 4096, 4352, 4480]
set_option maxHeartbeats 4000000 in
set_option maxRecDepth 100000 in
theorem wlX5_settle {h0 : pm_H} {r : pm_H} : ∀ n : Nat, (∀ (x0 : Nat) (h : pm_H), pw_F WX5_settle h0 h → pm_iter sX5_settle n (.inl (x0, h)) = some r → pw_F WX5_settle h0 r) ∧ (∀ (x0 : Nat) (x1 : Int32) (h : pm_H), pw_F WX5_settle h0 h → pm_iter sX5_settle n (.inr (.inl (x0, x1, h))) = some r → pw_F WX5_settle h0 r) ∧ (∀ (x0 : Nat) (x1 : Int32) (h : pm_H), pw_F WX5_settle h0 h → pm_iter sX5_settle n (.inr (.inr (.inl (x0, x1, h)))) = some r → pw_F WX5_settle h0 r) ∧ (∀ (x0 : Nat) (x1 : Int32) (h : pm_H), pw_F WX5_settle h0 h → pm_iter sX5_settle n (.inr (.inr (.inr (x0, x1, h)))) = some r → pw_F WX5_settle h0 r) := by
  intro n
  induction n with
  | zero => exact ⟨fun _ _ _ hf => (by cases hf), fun _ _ _ _ hf => (by cases hf), fun _ _ _ _ hf => (by cases hf), fun _ _ _ _ hf => (by cases hf)⟩
  | succ n ih =>
    refine ⟨fun x0 h K0 hf => ?_, ?_⟩
    · obtain ⟨y, hf, hi⟩ := pm_iter_s hf
      have hf : tX5_settle_0 x0 h = some y := hf
      unfold tX5_settle_0 at hf
      cases hf
      exact ih.2.1 x0 0 h K0  hi
    refine ⟨fun x0 x1 h K0 hf => ?_, ?_⟩
    · obtain ⟨y, hf, hi⟩ := pm_iter_s hf
      have hf : tX5_settle_2 x0 x1 h = some y := hf
      unfold tX5_settle_2 at hf
      by_cases c1 : 1000000 ≤ x1
      · have hf := pm_it hf c1
        have hf := Option.some.inj hf
        subst hf
        have hi := Option.some.inj (show some _ = some r from hi)
        subst hi
        exact K0
      · have hf := pm_ie hf c1
        obtain ⟨k2, hf⟩ := pm_if hf
        by_cases c3 : (pm_I h x0 0) = 1
        · have hf := pm_it hf c3
          obtain ⟨v4, e5, hf⟩ := pm_bd hf
          obtain ⟨k6, hf⟩ := pm_if hf
          by_cases c7 : (pm_I h v4 6) = 0
          · have hf := pm_it hf c7
            cases hf
            exact ih.2.2.1 x0 x1 h K0  hi
          · have hf := pm_ie hf c7
            by_cases c8 : (pm_I h v4 7) = 0
            · have hf := pm_it hf c8
              cases hf
              exact ih.2.2.2 x0 x1 h K0  hi
            · have hf := pm_ie hf c8
              obtain ⟨v9, e10, hf⟩ := pm_bd hf
              obtain ⟨k11, hf⟩ := pm_if hf
              by_cases c12 : (pm_I h v9 6) = 0
              · have hf := pm_it hf c12
                obtain ⟨v13, e14, hf⟩ := pm_bd hf
                obtain ⟨k15, hf⟩ := pm_if hf
                obtain ⟨v16, e17, hf⟩ := pm_bd hf
                have K18 := pw_t (by decide) K0 (wfX2_compile (pw_rf _) e17)
                cases hf
                exact ih.2.2.2 x0 x1 v16 K18  hi
              · have hf := pm_ie hf c12
                cases hf
                exact ih.2.2.2 x0 x1 h K0  hi
        · have hf := pm_ie hf c3
          have hf := Option.some.inj hf
          subst hf
          have hi := Option.some.inj (show some _ = some r from hi)
          subst hi
          exact K0
    refine ⟨fun x0 x1 h K0 hf => ?_, ?_⟩
    · obtain ⟨y, hf, hi⟩ := pm_iter_s hf
      have hf : tX5_settle_67 x0 x1 h = some y := hf
      unfold tX5_settle_67 at hf
      obtain ⟨k19, hf⟩ := pm_if hf
      obtain ⟨v20, e21, hf⟩ := pm_bd hf
      obtain ⟨k22, hf⟩ := pm_if hf
      by_cases c23 : (pm_I h v20 7) = 0
      · have hf := pm_it hf c23
        obtain ⟨v24, e25, hf⟩ := pm_bd hf
        obtain ⟨v26, e27, hf⟩ := pm_bd hf
        by_cases c28 : v26 = 5
        · have hf := pm_it hf c28
          obtain ⟨v29, e30, hf⟩ := pm_bd hf
          obtain ⟨y31, e32, hf⟩ := pm_lt hf
          cases hf
          exact ih.2.1 x0 y31 (pm_setI h v20 3 v29) (pw_sI K0 rfl k22 (by decide))  hi
        · have hf := pm_ie hf c28
          by_cases c33 : v26 = 11
          · have hf := pm_it hf c33
            obtain ⟨v34, e35, hf⟩ := pm_bd hf
            have K36 := pw_t (by decide) K0 (wfX5_leave (pw_rf _) e35)
            obtain ⟨y37, e38, hf⟩ := pm_lt hf
            cases hf
            exact ih.2.1 x0 y37 v34 K36  hi
          · have hf := pm_ie hf c33
            have hf := Option.some.inj hf
            subst hf
            have hi := Option.some.inj (show some _ = some r from hi)
            subst hi
            exact K0
      · have hf := pm_ie hf c23
        obtain ⟨y39, e40, hf⟩ := pm_lt hf
        obtain ⟨v41, e42, hf⟩ := pm_bd hf
        obtain ⟨v43, e44, hf⟩ := pm_bd hf
        by_cases c45 : v43 = 0
        · have hf := pm_it hf c45
          obtain ⟨y46, e47, hf⟩ := pm_lt hf
          obtain ⟨v48, e49, hf⟩ := pm_bd hf
          have K50 := pw_t (by decide) (pw_sI K0 rfl k22 (by decide)) (wfX5_goFreely (pw_rf _) e49)
          obtain ⟨y51, e52, hf⟩ := pm_lt hf
          cases hf
          exact ih.2.1 x0 y51 v48 K50  hi
        · have hf := pm_ie hf c45
          have hf := Option.some.inj hf
          subst hf
          have hi := Option.some.inj (show some _ = some r from hi)
          subst hi
          exact K0
    refine fun x0 x1 h K0 hf => ?_
    obtain ⟨y, hf, hi⟩ := pm_iter_s hf
    have hf : tX5_settle_63 x0 x1 h = some y := hf
    unfold tX5_settle_63 at hf
    obtain ⟨k53, hf⟩ := pm_if hf
    obtain ⟨v54, e55, hf⟩ := pm_bd hf
    have K56 := pw_t (by decide) K0 (wfX5_chooseCode (pw_rf _) e55)
    cases hf
    exact ih.2.2.1 x0 x1 v54 K56  hi
set_option maxHeartbeats 4000000 in
set_option maxRecDepth 100000 in
theorem wfX5_settle {h0 h : pm_H} (K0 : pw_F WX5_settle h0 h) {a0 : Nat}  {r : pm_H} (hf : fX5_settle h a0 = some r) : pw_F WX5_settle h0 r := by
  unfold fX5_settle at hf
  obtain ⟨n, hn⟩ := pm_lim_iter hf
  exact (wlX5_settle n).1 a0 h K0  hn
abbrev WX9_functionType : List Nat := [1153, 1155, 1156, 1157, 4352, 4608]
set_option maxHeartbeats 4000000 in
set_option maxRecDepth 100000 in
theorem wlX9_functionType {h0 : pm_H} {r : pm_H} : ∀ n : Nat, (∀ (x0 : Nat) (h : pm_H), pw_F WX9_functionType h0 h → pm_iter sX9_functionType n (.inl (x0, h)) = some r → pw_F WX9_functionType h0 r) ∧ (∀ (x0 : Nat) (x1 : Int32) (x2 : Int32) (h : pm_H), pw_F WX9_functionType h0 h → pm_iter sX9_functionType n (.inr (.inl (x0, x1, x2, h))) = some r → pw_F WX9_functionType h0 r) ∧ (∀ (s0 : Nat) (s1 : Int32) (s2 : Nat) (h : pm_H), pw_F WX9_functionType h0 h → pm_iter sX9_functionType n (.inr (.inr (.inl (s0, s1, s2, h)))) = some r → pw_F WX9_functionType h0 r) ∧ (∀ (x0 : Nat) (x1 : Int32) (x2 : Int32) (x3 : Int64) (x5 : Int64) (h : pm_H), pw_F WX9_functionType h0 h → pm_iter sX9_functionType n (.inr (.inr (.inr (x0, x1, x2, x3, x5, h)))) = some r → pw_F WX9_functionType h0 r) := by
  intro n
  induction n with
  | zero => exact ⟨fun _ _ _ hf => (by cases hf), fun _ _ _ _ _ hf => (by cases hf), fun _ _ _ _ _ hf => (by cases hf), fun _ _ _ _ _ _ _ hf => (by cases hf)⟩
  | succ n ih =>
    refine ⟨fun x0 h K0 hf => ?_, ?_⟩
    · obtain ⟨y, hf, hi⟩ := pm_iter_s hf
      have hf : tX9_functionType_0 x0 h = some y := hf
      unfold tX9_functionType_0 at hf
      obtain ⟨k1, hf⟩ := pm_if hf
      obtain ⟨v2, e3, hf⟩ := pm_bd hf
      have K4 := pw_t (by decide) K0 (wfX9_next (pw_rf _) e3)
      by_cases c5 : v2.1 = 96
      · have hf := pm_it hf c5
        cases hf
        exact ih.2.1 x0 2 0 v2.2 K4  hi
      · have hf := pm_ie hf c5
        obtain ⟨k6, hf⟩ := pm_if hf
        obtain ⟨v7, e8, hf⟩ := pm_bd hf
        have K9 := pw_t (by decide) K4 (wfX9_fail (pw_rf _) e8)
        cases hf
        exact ih.2.1 x0 2 0 v7 K9  hi
    refine ⟨fun x0 x1 x2 h K0 hf => ?_, ?_⟩
    · obtain ⟨y, hf, hi⟩ := pm_iter_s hf
      have hf : tX9_functionType_25 x0 x1 x2 h = some y := hf
      unfold tX9_functionType_25 at hf
      by_cases c10 : 2 ≤ x2
      · have hf := pm_it hf c10
        obtain ⟨k11, hf⟩ := pm_if hf
        by_cases c12 : (pm_I h x0 15) < 0
        · have hf := pm_it hf c12
          have hf := Option.some.inj hf
          subst hf
          have hi := Option.some.inj (show some _ = some r from hi)
          subst hi
          exact K0
        · have hf := pm_ie hf c12
          obtain ⟨v13, e14, hf⟩ := pm_bd hf
          obtain ⟨k15, hf⟩ := pm_if hf
          obtain ⟨v16, e17, hf⟩ := pm_bd hf
          obtain ⟨k18, hf⟩ := pm_if hf
          by_cases c19 : (Int32.ofNat (pm_ln h v16)) ≤ (pm_I h x0 15)
          · have hf := pm_it hf c19
            have hf := Option.some.inj hf
            subst hf
            have hi := Option.some.inj (show some _ = some r from hi)
            subst hi
            exact K0
          · have hf := pm_ie hf c19
            obtain ⟨v20, e21, hf⟩ := pm_bd hf
            obtain ⟨v22, e23, hf⟩ := pm_bd hf
            have K24 := pw_t (by decide) K0 (wfJ7_copyOf_59c91 (pw_rf _) e23)
            cases hf
            exact ih.2.2.1 v22.1 (pm_I h x0 15) v16 v22.2 K24  hi
      · have hf := pm_ie hf c10
        obtain ⟨k25, hf⟩ := pm_if hf
        obtain ⟨v26, e27, hf⟩ := pm_bd hf
        have K28 := pw_t (by decide) K0 (wfX9_number (pw_rf _) e27)
        by_cases c29 : v26.1 ≤ 16
        · have hf := pm_it hf c29
          cases hf
          exact ih.2.2.2 x0 x1 x2 v26.1 0 v26.2 K28  hi
        · have hf := pm_ie hf c29
          obtain ⟨k30, hf⟩ := pm_if hf
          obtain ⟨v31, e32, hf⟩ := pm_bd hf
          have K33 := pw_t (by decide) K28 (wfX9_exceedLimit (pw_rf _) e32)
          cases hf
          exact ih.2.2.2 x0 x1 x2 v26.1 0 v31 K33  hi
    refine ⟨fun s0 s1 s2 h K0 hf => ?_, ?_⟩
    · obtain ⟨y, hf, hi⟩ := pm_iter_s hf
      have hf : tX9_functionType_164 s0 s1 s2 h = some y := hf
      unfold tX9_functionType_164 at hf
      obtain ⟨k34, hf⟩ := pm_if hf
      obtain ⟨k35, hf⟩ := pm_if hf
      obtain ⟨u36, hf⟩ := pm_if hf
      have hf := Option.some.inj hf
      subst hf
      have hi := Option.some.inj (show some _ = some r from hi)
      subst hi
      exact (pw_aR K0 rfl k34 (by decide) (by decide))
    refine fun x0 x1 x2 x3 x5 h K0 hf => ?_
    obtain ⟨y, hf, hi⟩ := pm_iter_s hf
    have hf : tX9_functionType_52 x0 x1 x2 x3 x5 h = some y := hf
    unfold tX9_functionType_52 at hf
    by_cases c37 : x3 ≤ x5
    · have hf := pm_it hf c37
      obtain ⟨k38, hf⟩ := pm_if hf
      obtain ⟨v39, e40, hf⟩ := pm_bd hf
      obtain ⟨y41, e42, hf⟩ := pm_lt hf
      obtain ⟨k43, hf⟩ := pm_if hf
      obtain ⟨u44, hf⟩ := pm_if hf
      obtain ⟨y45, e46, hf⟩ := pm_lt hf
      cases hf
      exact ih.2.1 x0 x1 y45 (pm_setI h v39 x2.toNatClampNeg y41) (pw_aI K0 rfl k43 (by decide) (by decide))  hi
    · have hf := pm_ie hf c37
      obtain ⟨k47, hf⟩ := pm_if hf
      by_cases c48 : (pm_I h x0 3) = 0
      · have hf := pm_it hf c48
        obtain ⟨v49, e50, hf⟩ := pm_bd hf
        have K51 := pw_t (by decide) K0 (wfX9_valueType (pw_rf _) e50)
        obtain ⟨k52, hf⟩ := pm_if hf
        obtain ⟨v53, e54, hf⟩ := pm_bd hf
        obtain ⟨v55, e56, hf⟩ := pm_bd hf
        have K57 := pw_t (by decide) K51 (wfX12_setItem (pw_rf _) e56)
        obtain ⟨k58, hf⟩ := pm_if hf
        obtain ⟨v59, e60, hf⟩ := pm_bd hf
        obtain ⟨k61, hf⟩ := pm_if hf
        obtain ⟨y62, e63, hf⟩ := pm_lt hf
        obtain ⟨y64, e65, hf⟩ := pm_lt hf
        obtain ⟨y66, e67, hf⟩ := pm_lt hf
        cases hf
        exact ih.2.2.2 x0 y64 x2 x3 y66 v55 K57  hi
      · have hf := pm_ie hf c48
        obtain ⟨v68, e69, hf⟩ := pm_bd hf
        obtain ⟨y70, e71, hf⟩ := pm_lt hf
        obtain ⟨k72, hf⟩ := pm_if hf
        obtain ⟨u73, hf⟩ := pm_if hf
        obtain ⟨y74, e75, hf⟩ := pm_lt hf
        cases hf
        exact ih.2.1 x0 x1 y74 (pm_setI h v68 x2.toNatClampNeg y70) (pw_aI K0 rfl k72 (by decide) (by decide))  hi
set_option maxHeartbeats 4000000 in
set_option maxRecDepth 100000 in
theorem wfX9_functionType {h0 h : pm_H} (K0 : pw_F WX9_functionType h0 h) {a0 : Nat}  {r : pm_H} (hf : fX9_functionType h a0 = some r) : pw_F WX9_functionType h0 r := by
  unfold fX9_functionType at hf
  obtain ⟨n, hn⟩ := pm_lim_iter hf
  exact (wlX9_functionType n).1 a0 h K0  hn
abbrev WX11_grow : List Nat := [1409, 4352, 4608]
set_option maxHeartbeats 4000000 in
set_option maxRecDepth 100000 in
theorem wfX11_grow_b127 {h0 h : pm_H} (K0 : pw_F WX11_grow h0 h) {x0 : Nat} {x1 : Int32} {x2 : Int64} {x4 : Int32} {x5 : Int32} {x8 : Int32} {s0 : Nat} {s1 : Int32} {s2 : Nat}  {r : (Int32 × pm_H)} (hf : fX11_grow_b127 h x0 x1 x2 x4 x5 x8 s0 s1 s2 = some r) : pw_F WX11_grow h0 r.2 := by
  unfold fX11_grow_b127 at hf
  obtain ⟨k51, hf⟩ := pm_if hf
  obtain ⟨k52, hf⟩ := pm_if hf
  obtain ⟨u53, hf⟩ := pm_if hf
  obtain ⟨k54, hf⟩ := pm_if hf
  have k54b := (congrFun (pkR rfl) x0).symm.trans k54
  obtain ⟨y55, e56, hf⟩ := pm_lt hf
  obtain ⟨v57, e58, hf⟩ := pm_bd hf
  obtain ⟨v59, e60, hf⟩ := pm_bd hf
  have K61 := pw_t (by decide) (pw_sI (pw_aR K0 rfl k51 (by decide) (by decide)) (pkR rfl) k54b (by decide)) (wfX12_setItem (pw_rf _) e60)
  obtain ⟨k62, hf⟩ := pm_if hf
  obtain ⟨v63, e64, hf⟩ := pm_bd hf
  have K65 := pw_t (by decide) K61 (wfX11_fill (pw_rf _) e64)
  have hf := Option.some.inj hf
  subst hf
  exact K65
set_option maxHeartbeats 4000000 in
set_option maxRecDepth 100000 in
theorem wfX11_grow_b37 {h0 h : pm_H} (K0 : pw_F WX11_grow h0 h) {x0 : Nat} {x1 : Int32} {x2 : Int64} {x4 : Int32} {x5 : Int32} {s0 : Int64}  {r : (Int32 × pm_H)} (hf : fX11_grow_b37 h x0 x1 x2 x4 x5 s0 = some r) : pw_F WX11_grow h0 r.2 := by
  unfold fX11_grow_b37 at hf
  by_cases c13 : x1 < 0
  · have hf := pm_it hf c13
    have hf := Option.some.inj hf
    subst hf
    exact K0
  · have hf := pm_ie hf c13
    obtain ⟨k14, hf⟩ := pm_if hf
    obtain ⟨v15, e16, hf⟩ := pm_bd hf
    obtain ⟨k17, hf⟩ := pm_if hf
    by_cases c18 : (Int32.ofNat (pm_ln h v15)) ≤ x1
    · have hf := pm_it hf c18
      have hf := Option.some.inj hf
      subst hf
      exact K0
    · have hf := pm_ie hf c18
      by_cases c19 : ((pm_I h x0 1).toInt64) < x2
      · have hf := pm_it hf c19
        have hf := Option.some.inj hf
        subst hf
        exact K0
      · have hf := pm_ie hf c19
        by_cases c20 : (x5.toInt64 + x2) ≤ s0
        · have hf := pm_it hf c20
          obtain ⟨y21, e22, hf⟩ := pm_lt hf
          obtain ⟨u23, hf⟩ := pm_if hf
          obtain ⟨v24, e25, hf⟩ := pm_bd hf
          obtain ⟨k26, hf⟩ := pm_if hf
          by_cases c27 : y21 ≤ (Int32.ofNat (pm_ln h v24))
          · have hf := pm_it hf c27
            obtain ⟨y28, e29, hf⟩ := pm_lt hf
            obtain ⟨v30, e31, hf⟩ := pm_bd hf
            obtain ⟨v32, e33, hf⟩ := pm_bd hf
            have K34 := pw_t (by decide) (pw_sI K0 rfl k14 (by decide)) (wfX12_setItem (pw_rf _) e33)
            obtain ⟨k35, hf⟩ := pm_if hf
            obtain ⟨v36, e37, hf⟩ := pm_bd hf
            have K38 := pw_t (by decide) K34 (wfX11_fill (pw_rf _) e37)
            have hf := Option.some.inj hf
            subst hf
            exact K38
          · have hf := pm_ie hf c27
            obtain ⟨y39, e40, hf⟩ := pm_lt hf
            obtain ⟨y41, e42, hf⟩ := pm_lt hf
            obtain ⟨y43, e44, hf⟩ := pm_lt hf
            obtain ⟨u45, hf⟩ := pm_if hf
            obtain ⟨v46, e47, hf⟩ := pm_bd hf
            obtain ⟨v48, e49, hf⟩ := pm_bd hf
            have K50 := pw_t (by decide) K0 (wfJ7_copyOf_59c91 (pw_rf _) e49)
            exact wfX11_grow_b127 K50  hf
        · have hf := pm_ie hf c20
          have hf := Option.some.inj hf
          subst hf
          exact K0
set_option maxHeartbeats 4000000 in
set_option maxRecDepth 100000 in
theorem wfX11_grow_b0 {h0 h : pm_H} (K0 : pw_F WX11_grow h0 h) {x0 : Nat} {x1 : Int32} {x2 : Int64} {x4 : Int32}  {r : (Int32 × pm_H)} (hf : fX11_grow_b0 h x0 x1 x2 x4 = some r) : pw_F WX11_grow h0 r.2 := by
  unfold fX11_grow_b0 at hf
  obtain ⟨k1, hf⟩ := pm_if hf
  obtain ⟨v2, e3, hf⟩ := pm_bd hf
  obtain ⟨v4, e5, hf⟩ := pm_bd hf
  obtain ⟨v6, e7, hf⟩ := pm_bd hf
  obtain ⟨v8, e9, hf⟩ := pm_bd hf
  by_cases c10 : 0 ≤ v8
  · have hf := pm_it hf c10
    obtain ⟨v11, e12, hf⟩ := pm_bd hf
    exact wfX11_grow_b37 K0  hf
  · have hf := pm_ie hf c10
    exact wfX11_grow_b37 K0  hf
set_option maxHeartbeats 4000000 in
set_option maxRecDepth 100000 in
theorem wfX11_grow {h0 h : pm_H} (K0 : pw_F WX11_grow h0 h) {a0 : Nat} {p1 : Int32} {p2 : Int64} {p3 : Int32}  {r : (Int32 × pm_H)} (hf : fX11_grow h a0 p1 p2 p3 = some r) : pw_F WX11_grow h0 r.2 := by
  unfold fX11_grow at hf
  exact wfX11_grow_b0 K0  hf
