/-! ===== the class's calls with the answers that they must have; the state stays ===== -/
abbrev CT : Type := AS × Nat × (Nat → AS) × Nat × (Nat → Nat)
def KI (T : CT) (I : ZI) : Prop := CI I T.1 T.2.1 T.2.2.1 T.2.2.2.1 T.2.2.2.2
abbrev ZK (y : MethodName) (cc : ByteArray) (nL : Nat) (ret : Option FieldType) (d : Nat) (args : List Value) (T : CT) (I : ZI) (r : Value) : Prop := ZP y cc nL ret d args Sg I (fun r0 J => r0 = some r ∧ KI T J)
theorem nb_no {m n : Nat} (h : m ≤ n) (hn : n < 2 ^ 31) : ¬ ∃ v, v < m ∧ nI n = nI v := by
  rintro ⟨v, h1, h2⟩
  have := (nI_eq hn (by omega)).mp h2
  omega
theorem nb_m1 {m : Nat} (hm : m < 1000) : ¬ ∃ v, v < m ∧ (-1 : Int32) = nI v := by
  rintro ⟨v, h1, h2⟩
  exact m1_nI (by omega) h2
theorem nI_inj {a b m : Nat} (ha : a < m) (hb : b < m) (hm : m ≤ 1000) (h : nI a = nI b) : a = b := (nI_eq (by omega) (by omega)).mp h
section KC
variable {T : CT} {I : ZI} {x y z u w : Int32}
theorem AV.n20 {A : AS} (h : AV A) : anq A ≤ 20 ∧ anv A ≤ 6 ∧ ans A ≤ 20 := ⟨h.1.1, h.2.1, h.2.2.2.2.1⟩
theorem KI.av (h : KI T I) : AV T.1 := h.2.1
theorem k_at {v p : Nat} (h : KI T I) (hx : x = nI v) (hv : v < anv T.1) (hy : y = nI p) (hp : p < anq T.1) (hw : is03 w) : ZK yX9_at cX9_at 5 (some FieldType.int) 6 [.ref 0, .int x, .int y, .int w] T I (.int (atF T.1 v p w)) := (s_at h).mono (fun r J q => by
  obtain ⟨⟨a, rfl, ha⟩, -, hC⟩ := q
  have h20 := h.av.n20
  refine ⟨?_, hC⟩
  rcases ha with ⟨v', p', h1, h2, h3, h4, -, h5⟩ | ⟨g, -⟩
  · rw [nI_inj hv h1 (by omega) (hx.symm.trans h2), nI_inj hp h3 (by omega) (hy.symm.trans h4), h5]
  · exfalso
    rcases g with g | g | g
    · exact g ⟨v, hv, hx⟩
    · exact g ⟨p, hp, hy⟩
    · exact g hw)
theorem k_atB (h : KI T I) (hb : ¬ isV T.1 x ∨ ¬ isQ T.1 y ∨ ¬ is03 w) : ZK yX9_at cX9_at 5 (some FieldType.int) 6 [.ref 0, .int x, .int y, .int w] T I (.int (-1001)) := (s_at h).mono (fun r J q => by
  obtain ⟨⟨a, rfl, ha⟩, -, hC⟩ := q
  refine ⟨?_, hC⟩
  rcases ha with ⟨v', p', h1, h2, h3, h4, h6, h5⟩ | ⟨-, rfl⟩
  · exfalso
    rcases hb with g | g | g
    · exact g ⟨v', h1, h2⟩
    · exact g ⟨p', h3, h4⟩
    · exact g h6
  · rfl)
theorem k_where {v p : Nat} (h : KI T I) (hx : x = nI v) (hv : v < anv T.1) (hp : p < anq T.1) (hy : y = nI (vO T.1 v p)) : ZK yX9_where cX9_where 4 (some FieldType.int) 6 [.ref 0, .int x, .int y] T I (.int (nI p)) := (s_where h).mono (fun r J q => by
  obtain ⟨⟨a, rfl, ha⟩, -, hC⟩ := q
  have h20 := h.av.n20
  refine ⟨?_, hC⟩
  rcases ha with ⟨v', p', h1, h2, h3, h4, h5⟩ | ⟨g, -⟩
  · have e := nI_inj hv h1 (by omega) (hx.symm.trans h2)
    rw [← e] at h4
    have e2 := nI_inj (vO_lt hp) (vO_lt h3) (by omega) (hy.symm.trans h4)
    rw [vO_inj hp h3 e2, h5]
  · exfalso
    rcases g with g | g
    · exact g ⟨v, hv, hx⟩
    · exact g ⟨_, vO_lt hp, hy⟩)
theorem k_whereB (h : KI T I) (hb : ¬ isV T.1 x ∨ ¬ isQ T.1 y) : ZK yX9_where cX9_where 4 (some FieldType.int) 6 [.ref 0, .int x, .int y] T I (.int (-1001)) := (s_where h).mono (fun r J q => by
  obtain ⟨⟨a, rfl, ha⟩, -, hC⟩ := q
  refine ⟨?_, hC⟩
  rcases ha with ⟨v', p', h1, h2, h3, h4, h5⟩ | ⟨-, rfl⟩
  · exfalso
    rcases hb with g | g
    · exact g ⟨v', h1, h2⟩
    · exact g ⟨_, vO_lt h3, h4⟩
  · rfl)
theorem k_choice {v p k : Nat} (h : KI T I) (hx : x = nI v) (hv : v < anv T.1) (hy : y = nI p) (hp : p < anq T.1) (hz : z = nI k) (hk : k < aqd T.1 (vO T.1 v p) 4) : ZK yX9_choice cX9_choice 5 (some FieldType.int) 6 [.ref 0, .int x, .int y, .int z] T I (.int (nI (vC T.1 v p k))) := (s_choice h).mono (fun r J q => by
  obtain ⟨⟨a, rfl, ha⟩, -, hC⟩ := q
  have h20 := h.av.n20
  have h5 := (aqd5 h.av (vO_lt (v := v) hp)).1
  refine ⟨?_, hC⟩
  rcases ha with ⟨v', p', k', h1, h2, h3, h4, h6, h7, h8⟩ | ⟨g, -⟩
  · have e1 := nI_inj hv h1 (by omega) (hx.symm.trans h2)
    have e2 := nI_inj hp h3 (by omega) (hy.symm.trans h4)
    rw [← e1, ← e2] at h6
    have e3 := nI_inj hk h6 (by omega) (hz.symm.trans h7)
    rw [h8, e1, e2, e3]
  · exfalso
    rcases g with g | g | ⟨v', p', h1, h2, h3, h4, g⟩
    · exact g ⟨v, hv, hx⟩
    · exact g ⟨p, hp, hy⟩
    · have e1 := nI_inj hv h1 (by omega) (hx.symm.trans h2)
      have e2 := nI_inj hp h3 (by omega) (hy.symm.trans h4)
      rw [← e1, ← e2] at g
      exact g ⟨k, hk, hz⟩)
theorem k_choiceB (h : KI T I) (hb : ¬ isV T.1 x ∨ ¬ isQ T.1 y ∨ ∃ v p, v < anv T.1 ∧ x = nI v ∧ p < anq T.1 ∧ y = nI p ∧ ¬ ∃ k, k < aqd T.1 (vO T.1 v p) 4 ∧ z = nI k) : ZK yX9_choice cX9_choice 5 (some FieldType.int) 6 [.ref 0, .int x, .int y, .int z] T I (.int (-1001)) := (s_choice h).mono (fun r J q => by
  obtain ⟨⟨a, rfl, ha⟩, -, hC⟩ := q
  have h20 := h.av.n20
  refine ⟨?_, hC⟩
  rcases ha with ⟨v', p', k', h1, h2, h3, h4, h6, h7, h8⟩ | ⟨-, rfl⟩
  · exfalso
    rcases hb with g | g | ⟨v, p, hv, hx, hp, hy, g⟩
    · exact g ⟨v', h1, h2⟩
    · exact g ⟨p', h3, h4⟩
    · have e1 := nI_inj hv h1 (by omega) (hx.symm.trans h2)
      have e2 := nI_inj hp h3 (by omega) (hy.symm.trans h4)
      rw [e1, e2] at g
      exact g ⟨k', h6, h7⟩
  · rfl)
theorem k_question {q j : Nat} (h : KI T I) (hx : x = nI q) (hq : q < anq T.1) (hy : y = nI j) (hj : j < 5) : ZK yX9_question cX9_question 3 (some FieldType.int) 2 [.ref 0, .int x, .int y] T I (.int (nI (aqd T.1 q j))) := (s_question h).mono (fun r J g => by
  obtain ⟨⟨a, rfl, ha⟩, rfl⟩ := g
  have h20 := h.av.n20
  refine ⟨?_, h⟩
  rcases ha with ⟨q', j', h1, h2, h3, h4, h5⟩ | ⟨g, -⟩
  · rw [nI_inj hq h1 (by omega) (hx.symm.trans h2), nI_inj hj h3 (by omega) (hy.symm.trans h4), h5]
  · exfalso
    rcases g with g | g
    · exact g ⟨q, hq, hx⟩
    · exact g ⟨j, hj, hy⟩)
theorem k_questionB (h : KI T I) (hb : ¬ isQ T.1 x ∨ ¬ ∃ w, w < 5 ∧ y = nI w) : ZK yX9_question cX9_question 3 (some FieldType.int) 2 [.ref 0, .int x, .int y] T I (.int (-1001)) := (s_question h).mono (fun r J g => by
  obtain ⟨⟨a, rfl, ha⟩, rfl⟩ := g
  refine ⟨?_, h⟩
  rcases ha with ⟨q', j', h1, h2, h3, h4, h5⟩ | ⟨-, rfl⟩
  · exfalso
    rcases hb with g | g
    · exact g ⟨q', h1, h2⟩
    · exact g ⟨j', h3, h4⟩
  · rfl)
theorem k_alike {v v2 : Nat} (h : KI T I) (hx : x = nI v) (hv : v < anv T.1) (hy : y = nI v2) (hv2 : v2 < anv T.1) (hz : is02 z) : ZK yX9_alike cX9_alike 6 (some FieldType.int) 6 [.ref 0, .int x, .int y, .int z] T I (.int (nI (alF T.1 v v2 z))) := (s_alike h).mono (fun r J q => by
  obtain ⟨⟨a, rfl, ha⟩, -, hC⟩ := q
  have h20 := h.av.n20
  refine ⟨?_, hC⟩
  rcases ha with ⟨v', p', h1, h2, h3, h4, -, h5⟩ | ⟨g, -⟩
  · rw [nI_inj hv h1 (by omega) (hx.symm.trans h2), nI_inj hv2 h3 (by omega) (hy.symm.trans h4), h5]
  · exfalso
    rcases g with g | g | g
    · exact g ⟨v, hv, hx⟩
    · exact g ⟨v2, hv2, hy⟩
    · exact g hz)
theorem k_alikeB (h : KI T I) (hb : ¬ isV T.1 x ∨ ¬ isV T.1 y ∨ ¬ is02 z) : ZK yX9_alike cX9_alike 6 (some FieldType.int) 6 [.ref 0, .int x, .int y, .int z] T I (.int (-1001)) := (s_alike h).mono (fun r J q => by
  obtain ⟨⟨a, rfl, ha⟩, -, hC⟩ := q
  refine ⟨?_, hC⟩
  rcases ha with ⟨v', p', h1, h2, h3, h4, h6, h5⟩ | ⟨-, rfl⟩
  · exfalso
    rcases hb with g | g | g
    · exact g ⟨v', h1, h2⟩
    · exact g ⟨p', h3, h4⟩
    · exact g h6
  · rfl)
theorem k_pages {v : Nat} (h : KI T I) (hx : x = nI v) (hv : v < anv T.1) : ZK yX9_pages cX9_pages 3 (some FieldType.int) 6 [.ref 0, .int x] T I (.int (nI (vN T.1 v))) := (s_pages h).mono (fun r J q => by
  obtain ⟨⟨a, rfl, ha⟩, -, hC⟩ := q
  have h20 := h.av.n20
  refine ⟨?_, hC⟩
  rcases ha with ⟨v', h1, h2, h5⟩ | ⟨g, -⟩
  · rw [nI_inj hv h1 (by omega) (hx.symm.trans h2), h5]
  · exact absurd ⟨v, hv, hx⟩ g)
theorem k_pagesB (h : KI T I) (hb : ¬ isV T.1 x) : ZK yX9_pages cX9_pages 3 (some FieldType.int) 6 [.ref 0, .int x] T I (.int (-1001)) := (s_pages h).mono (fun r J q => by
  obtain ⟨⟨a, rfl, ha⟩, -, hC⟩ := q
  refine ⟨?_, hC⟩
  rcases ha with ⟨v', h1, h2, h5⟩ | ⟨-, rfl⟩
  · exact absurd ⟨v', h1, h2⟩ hb
  · rfl)
theorem k_page {v i : Nat} (h : KI T I) (hx : x = nI v) (hv : v < anv T.1) (hy : y = nI i) (hi : i < vN T.1 v) (hw : is01 w) : ZK yX9_page cX9_page 5 (some FieldType.int) 6 [.ref 0, .int x, .int y, .int w] T I (.int (if w = 0 then nI (vP T.1 v (i + 1) - vP T.1 v i) else nI (pgh T.1 v i))) := (s_page h).mono (fun r J q => by
  obtain ⟨⟨a, rfl, ha⟩, -, hC⟩ := q
  have h20 := h.av.n20
  have hN := vN_le T.1 v
  refine ⟨?_, hC⟩
  rcases ha with ⟨v', i', h1, h2, h3, h4, -, h5⟩ | ⟨g, -⟩
  · have e1 := nI_inj hv h1 (by omega) (hx.symm.trans h2)
    rw [← e1] at h3 h5
    rw [nI_inj hi h3 (by omega) (hy.symm.trans h4), h5]
    rfl
  · exfalso
    rcases g with g | ⟨v', h1, h2, g⟩ | g
    · exact g ⟨v, hv, hx⟩
    · rw [← nI_inj hv h1 (by omega) (hx.symm.trans h2)] at g
      exact g ⟨i, hi, hy⟩
    · exact g hw)
theorem k_pageB (h : KI T I) (hb : ¬ isV T.1 x ∨ (∃ v, v < anv T.1 ∧ x = nI v ∧ ¬ ∃ i, i < vN T.1 v ∧ y = nI i) ∨ ¬ is01 w) : ZK yX9_page cX9_page 5 (some FieldType.int) 6 [.ref 0, .int x, .int y, .int w] T I (.int (-1001)) := (s_page h).mono (fun r J q => by
  obtain ⟨⟨a, rfl, ha⟩, -, hC⟩ := q
  have h20 := h.av.n20
  refine ⟨?_, hC⟩
  rcases ha with ⟨v', i', h1, h2, h3, h4, h6, h5⟩ | ⟨-, rfl⟩
  · exfalso
    rcases hb with g | ⟨v, hv, hx, g⟩ | g
    · exact g ⟨v', h1, h2⟩
    · rw [nI_inj hv h1 (by omega) (hx.symm.trans h2)] at g
      exact g ⟨i', h3, h4⟩
    · exact g h6
  · rfl)
theorem k_result {t : Nat} (h : KI T I) (hx : x = nI t) (ht : t < ans T.1) (hw : is04 w) : ZK yX9_result cX9_result 3 (some FieldType.int) 4 [.ref 0, .int x, .int w] T I (.int (resF T.1 t w)) := (s_result h).mono (fun r J q => by
  obtain ⟨⟨a, rfl, ha⟩, rfl⟩ := q
  have h20 := h.av.n20
  refine ⟨?_, h⟩
  rcases ha with ⟨v', h1, h2, -, h5⟩ | ⟨g, -⟩
  · rw [nI_inj ht h1 (by omega) (hx.symm.trans h2), h5]
  · exfalso
    rcases g with g | g
    · exact g ⟨t, ht, hx⟩
    · exact g hw)
theorem k_resultB (h : KI T I) (hb : ¬ isT T.1 x ∨ ¬ is04 w) : ZK yX9_result cX9_result 3 (some FieldType.int) 4 [.ref 0, .int x, .int w] T I (.int (-1001)) := (s_result h).mono (fun r J q => by
  obtain ⟨⟨a, rfl, ha⟩, rfl⟩ := q
  refine ⟨?_, h⟩
  rcases ha with ⟨v', h1, h2, h4, h5⟩ | ⟨-, rfl⟩
  · exfalso
    rcases hb with g | g
    · exact g ⟨v', h1, h2⟩
    · exact g h4
  · rfl)
theorem k_answer {t q : Nat} (h : KI T I) (hx : x = nI t) (ht : t < ans T.1) (hy : y = nI q) (hq : q < anq T.1) : ZK yX9_answer cX9_answer 4 (some FieldType.int) 2 [.ref 0, .int x, .int y] T I (.int (anF T.1 t q)) := (s_answer h).mono (fun r J q => by
  obtain ⟨⟨a, rfl, ha⟩, rfl⟩ := q
  have h20 := h.av.n20
  refine ⟨?_, h⟩
  rcases ha with ⟨v', q', h1, h2, h3, h4, h5⟩ | ⟨g, -⟩
  · rw [nI_inj ht h1 (by omega) (hx.symm.trans h2), nI_inj hq h3 (by omega) (hy.symm.trans h4), h5]
  · exfalso
    rcases g with g | g
    · exact g ⟨t, ht, hx⟩
    · exact g ⟨_, hq, hy⟩)
theorem k_answerB (h : KI T I) (hb : ¬ isT T.1 x ∨ ¬ isQ T.1 y) : ZK yX9_answer cX9_answer 4 (some FieldType.int) 2 [.ref 0, .int x, .int y] T I (.int (-1001)) := (s_answer h).mono (fun r J q => by
  obtain ⟨⟨a, rfl, ha⟩, rfl⟩ := q
  refine ⟨?_, h⟩
  rcases ha with ⟨v', q', h1, h2, h3, h4, h5⟩ | ⟨-, rfl⟩
  · exfalso
    rcases hb with g | g
    · exact g ⟨v', h1, h2⟩
    · exact g ⟨q', h3, h4⟩
  · rfl)
theorem k_about {q : Nat} (h : KI T I) (hy : y = nI q) (hq : q < anq T.1) (hw : is03 w) : ZK yX9_about cX9_about 6 (some FieldType.int) 4 [.ref 0, .int y, .int w] T I (.int (abF T.1 q w)) := (s_about h).mono (fun r J q => by
  obtain ⟨⟨a, rfl, ha⟩, rfl⟩ := q
  have h20 := h.av.n20
  refine ⟨?_, h⟩
  rcases ha with ⟨q', h3, h4, -, h5⟩ | ⟨g, -⟩
  · rw [nI_inj hq h3 (by omega) (hy.symm.trans h4), h5]
  · exfalso
    rcases g with g | g
    · exact g ⟨_, hq, hy⟩
    · exact g hw)
theorem k_aboutB (h : KI T I) (hb : ¬ isQ T.1 y ∨ ¬ is03 w) : ZK yX9_about cX9_about 6 (some FieldType.int) 4 [.ref 0, .int y, .int w] T I (.int (-1001)) := (s_about h).mono (fun r J q => by
  obtain ⟨⟨a, rfl, ha⟩, rfl⟩ := q
  refine ⟨?_, h⟩
  rcases ha with ⟨q', h3, h4, h6, h5⟩ | ⟨-, rfl⟩
  · exfalso
    rcases hb with g | g
    · exact g ⟨q', h3, h4⟩
    · exact g h6
  · rfl)
theorem k_parting {q : Nat} (h : KI T I) (hx : x = nI q) (hq : q < anq T.1) : ZK yX9_parting cX9_parting 7 (some FieldType.float) 4 [.ref 0, .int x] T I (.float (prF T.1 q)) := (s_parting h).mono (fun r J q => by
  obtain ⟨⟨a, rfl, ha⟩, rfl⟩ := q
  have h20 := h.av.n20
  refine ⟨?_, h⟩
  rcases ha with ⟨q', h3, h4, h5⟩ | ⟨g, -⟩
  · rw [nI_inj hq h3 (by omega) (hx.symm.trans h4), h5]
  · exact absurd ⟨_, hq, hx⟩ g)
theorem k_partingB (h : KI T I) (hb : ¬ isQ T.1 x) : ZK yX9_parting cX9_parting 7 (some FieldType.float) 4 [.ref 0, .int x] T I (.float 3221225472) := (s_parting h).mono (fun r J q => by
  obtain ⟨⟨a, rfl, ha⟩, rfl⟩ := q
  refine ⟨?_, h⟩
  rcases ha with ⟨q', h3, h4, h5⟩ | ⟨-, rfl⟩
  · exact absurd ⟨_, h3, h4⟩ hb
  · rfl)
theorem k_sameWrong {s t : Nat} (h : KI T I) (hx : x = nI s) (hs : s < ans T.1) (hy : y = nI t) (ht : t < ans T.1) : ZK yX9_sameWrong cX9_sameWrong 3 (some FieldType.int) 3 [.ref 0, .int x, .int y] T I (.int (nI (swF T.1 s t (anq T.1)))) := (s_sameWrong h).mono (fun r J q => by
  obtain ⟨⟨a, rfl, ha⟩, rfl⟩ := q
  have h20 := h.av.n20
  refine ⟨?_, h⟩
  rcases ha with ⟨v', q', h1, h2, h3, h4, h5⟩ | ⟨g, -⟩
  · rw [nI_inj hs h1 (by omega) (hx.symm.trans h2), nI_inj ht h3 (by omega) (hy.symm.trans h4), h5]
  · exfalso
    rcases g with g | g
    · exact g ⟨_, hs, hx⟩
    · exact g ⟨_, ht, hy⟩)
theorem k_sameWrongB (h : KI T I) (hb : ¬ isT T.1 x ∨ ¬ isT T.1 y) : ZK yX9_sameWrong cX9_sameWrong 3 (some FieldType.int) 3 [.ref 0, .int x, .int y] T I (.int (-1001)) := (s_sameWrong h).mono (fun r J q => by
  obtain ⟨⟨a, rfl, ha⟩, rfl⟩ := q
  refine ⟨?_, h⟩
  rcases ha with ⟨v', q', h1, h2, h3, h4, h5⟩ | ⟨-, rfl⟩
  · exfalso
    rcases hb with g | g
    · exact g ⟨v', h1, h2⟩
    · exact g ⟨q', h3, h4⟩
  · rfl)
theorem k_mistaken {t v : Nat} (h : KI T I) (hx : x = nI t) (ht : t < ans T.1) (hy : y = nI v) (hv : v < anv T.1) : ZK yX9_mistaken cX9_mistaken 7 (some FieldType.int) 6 [.ref 0, .int x, .int y] T I (.int (msF T.1 t v)) := (s_mistaken h).mono (fun r J q => by
  obtain ⟨⟨a, rfl, ha⟩, -, hC⟩ := q
  have h20 := h.av.n20
  refine ⟨?_, hC⟩
  rcases ha with ⟨v', q', h1, h2, h3, h4, h5⟩ | ⟨g, -⟩
  · rw [nI_inj ht h1 (by omega) (hx.symm.trans h2), nI_inj hv h3 (by omega) (hy.symm.trans h4), h5]
  · exfalso
    rcases g with g | g
    · exact g ⟨_, ht, hx⟩
    · exact g ⟨_, hv, hy⟩)
theorem k_mistakenB (h : KI T I) (hb : ¬ isT T.1 x ∨ ¬ isV T.1 y) : ZK yX9_mistaken cX9_mistaken 7 (some FieldType.int) 6 [.ref 0, .int x, .int y] T I (.int (-1001)) := (s_mistaken h).mono (fun r J q => by
  obtain ⟨⟨a, rfl, ha⟩, -, hC⟩ := q
  refine ⟨?_, hC⟩
  rcases ha with ⟨v', q', h1, h2, h3, h4, h5⟩ | ⟨-, rfl⟩
  · exfalso
    rcases hb with g | g
    · exact g ⟨v', h1, h2⟩
    · exact g ⟨q', h3, h4⟩
  · rfl)
theorem k_suspects (h : KI T I) : ZK yX9_suspects cX9_suspects 6 (some FieldType.int) 3 [.ref 0] T I (.int (suO T.1 (ans T.1)).1) := (s_suspects h).toP ⟨rfl, h⟩
theorem k_mean (h : KI T I) : ZK yX9_mean cX9_mean 3 (some FieldType.float) 2 [.ref 0] T I (.float (mnF T.1)) := (s_mean h).toP ⟨rfl, h⟩
theorem k_questions (h : KI T I) : ZK yX9_questions cX9_questions 1 (some FieldType.int) 0 [.ref 0] T I (.int (nI (anq T.1))) := (s_questions h).toP ⟨rfl, h⟩
theorem k_versions (h : KI T I) : ZK yX9_versions cX9_versions 1 (some FieldType.int) 0 [.ref 0] T I (.int (nI (anv T.1))) := (s_versions h).toP ⟨rfl, h⟩
theorem k_fingerprint (h : KI T I) : ZK yX9_fingerprint cX9_fingerprint 3 (some FieldType.long) 7 [.ref 0] T I (.long (fpF T.1)) := (s_fingerprint h).mono (fun r J q => ⟨q.1, q.2.2⟩)
theorem k_unlike {n : Nat} (h : KI T I) (hy : y = nI n) (h1 : 1 ≤ n) (h2 : n ≤ 40) : ZK yX9_unlike cX9_unlike 7 (some FieldType.long) 7 [.ref 0, .int x, .int y] T I (.long (ulF T.1 x n).1.toInt64) := (s_unlike h).mono (fun r J q => by
  obtain ⟨⟨a, rfl, ha⟩, -, hC⟩ := q
  refine ⟨?_, hC⟩
  rcases ha with ⟨n', h3, h4, h5, h6⟩ | ⟨g, -⟩
  · rw [nI_inj (m := 41) (by omega) (by omega) (by decide) (hy.symm.trans h5), h6]
  · exact absurd ⟨n, h1, h2, hy⟩ g)
theorem k_unlikeB (h : KI T I) (hb : ¬ ∃ n, 1 ≤ n ∧ n ≤ 40 ∧ y = nI n) : ZK yX9_unlike cX9_unlike 7 (some FieldType.long) 7 [.ref 0, .int x, .int y] T I (.long (-4611686018427387905)) := (s_unlike h).mono (fun r J q => by
  obtain ⟨⟨a, rfl, ha⟩, -, hC⟩ := q
  refine ⟨?_, hC⟩
  rcases ha with ⟨n', h3, h4, h5, h6⟩ | ⟨-, rfl⟩
  · exact absurd ⟨n', h3, h4, h5⟩ hb
  · rfl)
theorem k_typeB (h : KI T I) (hb : ¬ isCh x) : ZK yX9_type cX9_type 2 (some FieldType.int) 1 [.ref 0, .int x] T I (.int (-1001)) := (s_type h).mono (fun r J q => by
  rcases q.2 with ⟨a, rfl, ha, hC⟩ | ⟨n, h1, h2, h3, -⟩
  · refine ⟨?_, hC⟩
    rcases ha with ⟨-, rfl⟩ | ⟨g, -⟩
    · rfl
    · exact absurd g hb
  · exact absurd ⟨n, h1, h2, h3⟩ hb)
theorem k_sheetB (h : KI T I) (hb : ¬ isV T.1 x) : ZK yX9_sheet cX9_sheet 4 (some FieldType.int) 6 [.ref 0, .int x] T I (.int (-1001)) := (s_sheet h).mono (fun r J q => by
  rcases q.2 with ⟨-, e, hC⟩ | ⟨g, -⟩ | ⟨v, i, h1, h2, -⟩ | ⟨v, h1, h2, -⟩
  · exact ⟨e, hC⟩
  · exact absurd g hb
  · exact absurd ⟨v, h1, h2⟩ hb
  · exact absurd ⟨v, h1, h2⟩ hb)
theorem k_guessB (h : KI T I) (hb : ¬ isV T.1 x ∨ ¬ isK z) : ZK yX9_guess cX9_guess 7 (some FieldType.int) 6 [.ref 0, .int x, .int y, .int z] T I (.int (-1001)) := (s_guess h).mono (fun r J q => by
  have no : isV T.1 x → isK z → False := fun a b => hb.elim (fun g => g a) (fun g => g b)
  rcases q.2 with ⟨-, e, hC⟩ | ⟨g1, g2, -⟩ | ⟨v, sk, h1, h2, h3, h4, -⟩
  · exact ⟨e, hC⟩
  · exact absurd g2 (fun g => no g1 g)
  · exact absurd (⟨sk, h3, h4⟩ : isK z) (fun g => no ⟨v, h1, h2⟩ g))
theorem k_addB (h : KI T I) (hb : ¬ ∃ f, vQ x y z u w f) : ZK yX9_add cX9_add 6 (some FieldType.int) 6 [.ref 0, .int x, .int y, .int z, .int u, .int w] T I (.int (-1001)) := (s_add h).mono (fun r J q => by
  rcases q.2 with ⟨a, rfl, ha, hC⟩ | ⟨f, hf, -⟩
  · refine ⟨?_, hC⟩
    rcases ha with ⟨-, rfl⟩ | ⟨g, -⟩ | ⟨g, -⟩
    · rfl
    · exact absurd g hb
    · exact absurd g hb
  · exact absurd ⟨f, hf⟩ hb)
theorem k_addS (h : KI T I) (hf : ∃ f, vQ x y z u w f) (h0 : ans T.1 ≠ 0) : ZK yX9_add cX9_add 6 (some FieldType.int) 6 [.ref 0, .int x, .int y, .int z, .int u, .int w] T I (.int (-1002)) := (s_add h).mono (fun r J q => by
  rcases q.2 with ⟨a, rfl, ha, hC⟩ | ⟨f, -, g, -⟩
  · refine ⟨?_, hC⟩
    rcases ha with ⟨g, -⟩ | ⟨-, -, rfl⟩ | ⟨-, g, -⟩
    · exact absurd hf g
    · rfl
    · exact absurd g h0
  · exact absurd g h0)
theorem k_removeB (h : KI T I) (hb : ¬ isQ T.1 x) : ZK yX9_remove cX9_remove 2 (some FieldType.int) 6 [.ref 0, .int x] T I (.int (-1001)) := (s_remove h).mono (fun r J q => by
  rcases q.2 with ⟨-, e, hC⟩ | ⟨g, -⟩ | ⟨q, h1, h2, -⟩
  · exact ⟨e, hC⟩
  · exact absurd g hb
  · exact absurd ⟨q, h1, h2⟩ hb)
theorem k_removeS (h : KI T I) (hq : isQ T.1 x) (h0 : ans T.1 ≠ 0) : ZK yX9_remove cX9_remove 2 (some FieldType.int) 6 [.ref 0, .int x] T I (.int (-1002)) := (s_remove h).mono (fun r J q => by
  rcases q.2 with ⟨g, -⟩ | ⟨-, -, e, hC⟩ | ⟨q, -, -, g, -⟩
  · exact absurd hq g
  · exact ⟨e, hC⟩
  · exact absurd g h0)
theorem k_changeB (h : KI T I) (hb : ¬ ∃ q j n, vC2 T.1 x y z q j n) : ZK yX9_change cX9_change 5 (some FieldType.int) 6 [.ref 0, .int x, .int y, .int z] T I (.int (-1001)) := (s_change h).mono (fun r J q => by
  rcases q.2 with ⟨a, rfl, ha, hC⟩ | ⟨q, j, n, g, -⟩
  · refine ⟨?_, hC⟩
    rcases ha with ⟨-, rfl⟩ | ⟨g, -⟩
    · rfl
    · exact absurd g hb
  · exact absurd ⟨q, j, n, g⟩ hb)
theorem k_changeS (h : KI T I) (hq : ∃ q j n, vC2 T.1 x y z q j n) (h0 : ans T.1 ≠ 0) : ZK yX9_change cX9_change 5 (some FieldType.int) 6 [.ref 0, .int x, .int y, .int z] T I (.int (-1002)) := (s_change h).mono (fun r J q => by
  rcases q.2 with ⟨a, rfl, ha, hC⟩ | ⟨q, j, n, -, g, -⟩
  · refine ⟨?_, hC⟩
    rcases ha with ⟨g, -⟩ | ⟨-, -, rfl⟩
    · exact absurd hq g
    · rfl
  · exact absurd g h0)
theorem k_setLinesB (h : KI T I) (hb : ¬ isL x) : ZK yX9_setLines cX9_setLines 3 (some FieldType.int) 6 [.ref 0, .int x] T I (.int (-1001)) := (s_setLines h).mono (fun r J q => by
  rcases q.2 with ⟨-, e, hC⟩ | ⟨n, h1, h2, h3, -⟩
  · exact ⟨e, hC⟩
  · exact absurd ⟨n, h1, h2, h3⟩ hb)
theorem k_versionS (h : KI T I) (h0 : ans T.1 ≠ 0) : ZK yX9_version cX9_version 3 (some FieldType.int) 6 [.ref 0, .int x] T I (.int (-1002)) := (s_version h).mono (fun r J q => by
  rcases q.2 with ⟨a, rfl, ha, hC⟩ | ⟨g, -⟩
  · refine ⟨?_, hC⟩
    rcases ha with ⟨-, rfl⟩ | ⟨g, -⟩
    · rfl
    · exact absurd g h0
  · exact absurd g h0)
theorem k_dropS (h : KI T I) (h0 : ans T.1 ≠ 0 ∨ anv T.1 = 0) : ZK yX9_drop cX9_drop 1 (some FieldType.long) 6 [.ref 0] T I (.long (-1002)) := (s_drop h).mono (fun r J q => by
  rcases q.2 with ⟨-, e, hC⟩ | ⟨g1, g2, -⟩
  · exact ⟨e, hC⟩
  · exfalso
    rcases h0 with g | g
    · exact g g1
    · omega)
end KC

