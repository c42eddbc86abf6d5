section MSHAPES
def shI (f : (Nat → Bool) → Int → mM → (mO → mM → Prop) → Prop) : mSp := fun fl avs I Q => match avs with
  | [.inl v0] => f fl v0 I Q
  | _ => False
theorem shI_ {f : (Nat → Bool) → Int → mM → (mO → mM → Prop) → Prop} {fl : Nat → Bool} {I : mM} {Q : mO → mM → Prop} {v0 : Int} : shI f fl [mI v0] I Q = f fl v0 I Q := rfl
theorem shI_inv {f : (Nat → Bool) → Int → mM → (mO → mM → Prop) → Prop} {fl : Nat → Bool} {I : mM} {Q : mO → mM → Prop} {avs : List mV} (h : shI f fl avs I Q) : ∃ (v0 : Int), avs = [mI v0] ∧ f fl v0 I Q := by
  unfold shI at h
  split at h
  · exact ⟨_, rfl, h⟩
  · exact absurd h id
def shII (f : (Nat → Bool) → Int → Int → mM → (mO → mM → Prop) → Prop) : mSp := fun fl avs I Q => match avs with
  | [.inl v0, .inl v1] => f fl v0 v1 I Q
  | _ => False
theorem shII_ {f : (Nat → Bool) → Int → Int → mM → (mO → mM → Prop) → Prop} {fl : Nat → Bool} {I : mM} {Q : mO → mM → Prop} {v0 : Int} {v1 : Int} : shII f fl [mI v0, mI v1] I Q = f fl v0 v1 I Q := rfl
theorem shII_inv {f : (Nat → Bool) → Int → Int → mM → (mO → mM → Prop) → Prop} {fl : Nat → Bool} {I : mM} {Q : mO → mM → Prop} {avs : List mV} (h : shII f fl avs I Q) : ∃ (v0 : Int) (v1 : Int), avs = [mI v0, mI v1] ∧ f fl v0 v1 I Q := by
  unfold shII at h
  split at h
  · exact ⟨_, _, rfl, h⟩
  · exact absurd h id
def shIII (f : (Nat → Bool) → Int → Int → Int → mM → (mO → mM → Prop) → Prop) : mSp := fun fl avs I Q => match avs with
  | [.inl v0, .inl v1, .inl v2] => f fl v0 v1 v2 I Q
  | _ => False
theorem shIII_ {f : (Nat → Bool) → Int → Int → Int → mM → (mO → mM → Prop) → Prop} {fl : Nat → Bool} {I : mM} {Q : mO → mM → Prop} {v0 : Int} {v1 : Int} {v2 : Int} : shIII f fl [mI v0, mI v1, mI v2] I Q = f fl v0 v1 v2 I Q := rfl
theorem shIII_inv {f : (Nat → Bool) → Int → Int → Int → mM → (mO → mM → Prop) → Prop} {fl : Nat → Bool} {I : mM} {Q : mO → mM → Prop} {avs : List mV} (h : shIII f fl avs I Q) : ∃ (v0 : Int) (v1 : Int) (v2 : Int), avs = [mI v0, mI v1, mI v2] ∧ f fl v0 v1 v2 I Q := by
  unfold shIII at h
  split at h
  · exact ⟨_, _, _, rfl, h⟩
  · exact absurd h id
def shIIII (f : (Nat → Bool) → Int → Int → Int → Int → mM → (mO → mM → Prop) → Prop) : mSp := fun fl avs I Q => match avs with
  | [.inl v0, .inl v1, .inl v2, .inl v3] => f fl v0 v1 v2 v3 I Q
  | _ => False
theorem shIIII_ {f : (Nat → Bool) → Int → Int → Int → Int → mM → (mO → mM → Prop) → Prop} {fl : Nat → Bool} {I : mM} {Q : mO → mM → Prop} {v0 : Int} {v1 : Int} {v2 : Int} {v3 : Int} : shIIII f fl [mI v0, mI v1, mI v2, mI v3] I Q = f fl v0 v1 v2 v3 I Q := rfl
theorem shIIII_inv {f : (Nat → Bool) → Int → Int → Int → Int → mM → (mO → mM → Prop) → Prop} {fl : Nat → Bool} {I : mM} {Q : mO → mM → Prop} {avs : List mV} (h : shIIII f fl avs I Q) : ∃ (v0 : Int) (v1 : Int) (v2 : Int) (v3 : Int), avs = [mI v0, mI v1, mI v2, mI v3] ∧ f fl v0 v1 v2 v3 I Q := by
  unfold shIIII at h
  split at h
  · exact ⟨_, _, _, _, rfl, h⟩
  · exact absurd h id
def shL (f : (Nat → Bool) → Int → mM → (mO → mM → Prop) → Prop) : mSp := fun fl avs I Q => match avs with
  | [.inr (.inl v0)] => f fl v0 I Q
  | _ => False
theorem shL_ {f : (Nat → Bool) → Int → mM → (mO → mM → Prop) → Prop} {fl : Nat → Bool} {I : mM} {Q : mO → mM → Prop} {v0 : Int} : shL f fl [mL v0] I Q = f fl v0 I Q := rfl
theorem shL_inv {f : (Nat → Bool) → Int → mM → (mO → mM → Prop) → Prop} {fl : Nat → Bool} {I : mM} {Q : mO → mM → Prop} {avs : List mV} (h : shL f fl avs I Q) : ∃ (v0 : Int), avs = [mL v0] ∧ f fl v0 I Q := by
  unfold shL at h
  split at h
  · exact ⟨_, rfl, h⟩
  · exact absurd h id
def shLL (f : (Nat → Bool) → Int → Int → mM → (mO → mM → Prop) → Prop) : mSp := fun fl avs I Q => match avs with
  | [.inr (.inl v0), .inr (.inl v1)] => f fl v0 v1 I Q
  | _ => False
theorem shLL_ {f : (Nat → Bool) → Int → Int → mM → (mO → mM → Prop) → Prop} {fl : Nat → Bool} {I : mM} {Q : mO → mM → Prop} {v0 : Int} {v1 : Int} : shLL f fl [mL v0, mL v1] I Q = f fl v0 v1 I Q := rfl
theorem shLL_inv {f : (Nat → Bool) → Int → Int → mM → (mO → mM → Prop) → Prop} {fl : Nat → Bool} {I : mM} {Q : mO → mM → Prop} {avs : List mV} (h : shLL f fl avs I Q) : ∃ (v0 : Int) (v1 : Int), avs = [mL v0, mL v1] ∧ f fl v0 v1 I Q := by
  unfold shLL at h
  split at h
  · exact ⟨_, _, rfl, h⟩
  · exact absurd h id
def shLLL (f : (Nat → Bool) → Int → Int → Int → mM → (mO → mM → Prop) → Prop) : mSp := fun fl avs I Q => match avs with
  | [.inr (.inl v0), .inr (.inl v1), .inr (.inl v2)] => f fl v0 v1 v2 I Q
  | _ => False
theorem shLLL_ {f : (Nat → Bool) → Int → Int → Int → mM → (mO → mM → Prop) → Prop} {fl : Nat → Bool} {I : mM} {Q : mO → mM → Prop} {v0 : Int} {v1 : Int} {v2 : Int} : shLLL f fl [mL v0, mL v1, mL v2] I Q = f fl v0 v1 v2 I Q := rfl
theorem shLLL_inv {f : (Nat → Bool) → Int → Int → Int → mM → (mO → mM → Prop) → Prop} {fl : Nat → Bool} {I : mM} {Q : mO → mM → Prop} {avs : List mV} (h : shLLL f fl avs I Q) : ∃ (v0 : Int) (v1 : Int) (v2 : Int), avs = [mL v0, mL v1, mL v2] ∧ f fl v0 v1 v2 I Q := by
  unfold shLLL at h
  split at h
  · exact ⟨_, _, _, rfl, h⟩
  · exact absurd h id
def shR (f : (Nat → Bool) → Option Nat → mM → (mO → mM → Prop) → Prop) : mSp := fun fl avs I Q => match avs with
  | [.inr (.inr v0)] => f fl v0 I Q
  | _ => False
theorem shR_ {f : (Nat → Bool) → Option Nat → mM → (mO → mM → Prop) → Prop} {fl : Nat → Bool} {I : mM} {Q : mO → mM → Prop} {v0 : Option Nat} : shR f fl [mR v0] I Q = f fl v0 I Q := rfl
theorem shR_inv {f : (Nat → Bool) → Option Nat → mM → (mO → mM → Prop) → Prop} {fl : Nat → Bool} {I : mM} {Q : mO → mM → Prop} {avs : List mV} (h : shR f fl avs I Q) : ∃ (v0 : Option Nat), avs = [mR v0] ∧ f fl v0 I Q := by
  unfold shR at h
  split at h
  · exact ⟨_, rfl, h⟩
  · exact absurd h id
def shRI (f : (Nat → Bool) → Option Nat → Int → mM → (mO → mM → Prop) → Prop) : mSp := fun fl avs I Q => match avs with
  | [.inr (.inr v0), .inl v1] => f fl v0 v1 I Q
  | _ => False
theorem shRI_ {f : (Nat → Bool) → Option Nat → Int → mM → (mO → mM → Prop) → Prop} {fl : Nat → Bool} {I : mM} {Q : mO → mM → Prop} {v0 : Option Nat} {v1 : Int} : shRI f fl [mR v0, mI v1] I Q = f fl v0 v1 I Q := rfl
theorem shRI_inv {f : (Nat → Bool) → Option Nat → Int → mM → (mO → mM → Prop) → Prop} {fl : Nat → Bool} {I : mM} {Q : mO → mM → Prop} {avs : List mV} (h : shRI f fl avs I Q) : ∃ (v0 : Option Nat) (v1 : Int), avs = [mR v0, mI v1] ∧ f fl v0 v1 I Q := by
  unfold shRI at h
  split at h
  · exact ⟨_, _, rfl, h⟩
  · exact absurd h id
def shRII (f : (Nat → Bool) → Option Nat → Int → Int → mM → (mO → mM → Prop) → Prop) : mSp := fun fl avs I Q => match avs with
  | [.inr (.inr v0), .inl v1, .inl v2] => f fl v0 v1 v2 I Q
  | _ => False
theorem shRII_ {f : (Nat → Bool) → Option Nat → Int → Int → mM → (mO → mM → Prop) → Prop} {fl : Nat → Bool} {I : mM} {Q : mO → mM → Prop} {v0 : Option Nat} {v1 : Int} {v2 : Int} : shRII f fl [mR v0, mI v1, mI v2] I Q = f fl v0 v1 v2 I Q := rfl
theorem shRII_inv {f : (Nat → Bool) → Option Nat → Int → Int → mM → (mO → mM → Prop) → Prop} {fl : Nat → Bool} {I : mM} {Q : mO → mM → Prop} {avs : List mV} (h : shRII f fl avs I Q) : ∃ (v0 : Option Nat) (v1 : Int) (v2 : Int), avs = [mR v0, mI v1, mI v2] ∧ f fl v0 v1 v2 I Q := by
  unfold shRII at h
  split at h
  · exact ⟨_, _, _, rfl, h⟩
  · exact absurd h id
def shRIII (f : (Nat → Bool) → Option Nat → Int → Int → Int → mM → (mO → mM → Prop) → Prop) : mSp := fun fl avs I Q => match avs with
  | [.inr (.inr v0), .inl v1, .inl v2, .inl v3] => f fl v0 v1 v2 v3 I Q
  | _ => False
theorem shRIII_ {f : (Nat → Bool) → Option Nat → Int → Int → Int → mM → (mO → mM → Prop) → Prop} {fl : Nat → Bool} {I : mM} {Q : mO → mM → Prop} {v0 : Option Nat} {v1 : Int} {v2 : Int} {v3 : Int} : shRIII f fl [mR v0, mI v1, mI v2, mI v3] I Q = f fl v0 v1 v2 v3 I Q := rfl
theorem shRIII_inv {f : (Nat → Bool) → Option Nat → Int → Int → Int → mM → (mO → mM → Prop) → Prop} {fl : Nat → Bool} {I : mM} {Q : mO → mM → Prop} {avs : List mV} (h : shRIII f fl avs I Q) : ∃ (v0 : Option Nat) (v1 : Int) (v2 : Int) (v3 : Int), avs = [mR v0, mI v1, mI v2, mI v3] ∧ f fl v0 v1 v2 v3 I Q := by
  unfold shRIII at h
  split at h
  · exact ⟨_, _, _, _, rfl, h⟩
  · exact absurd h id
def shRIIII (f : (Nat → Bool) → Option Nat → Int → Int → Int → Int → mM → (mO → mM → Prop) → Prop) : mSp := fun fl avs I Q => match avs with
  | [.inr (.inr v0), .inl v1, .inl v2, .inl v3, .inl v4] => f fl v0 v1 v2 v3 v4 I Q
  | _ => False
theorem shRIIII_ {f : (Nat → Bool) → Option Nat → Int → Int → Int → Int → mM → (mO → mM → Prop) → Prop} {fl : Nat → Bool} {I : mM} {Q : mO → mM → Prop} {v0 : Option Nat} {v1 : Int} {v2 : Int} {v3 : Int} {v4 : Int} : shRIIII f fl [mR v0, mI v1, mI v2, mI v3, mI v4] I Q = f fl v0 v1 v2 v3 v4 I Q := rfl
theorem shRIIII_inv {f : (Nat → Bool) → Option Nat → Int → Int → Int → Int → mM → (mO → mM → Prop) → Prop} {fl : Nat → Bool} {I : mM} {Q : mO → mM → Prop} {avs : List mV} (h : shRIIII f fl avs I Q) : ∃ (v0 : Option Nat) (v1 : Int) (v2 : Int) (v3 : Int) (v4 : Int), avs = [mR v0, mI v1, mI v2, mI v3, mI v4] ∧ f fl v0 v1 v2 v3 v4 I Q := by
  unfold shRIIII at h
  split at h
  · exact ⟨_, _, _, _, _, rfl, h⟩
  · exact absurd h id
def shRIIIII (f : (Nat → Bool) → Option Nat → Int → Int → Int → Int → Int → mM → (mO → mM → Prop) → Prop) : mSp := fun fl avs I Q => match avs with
  | [.inr (.inr v0), .inl v1, .inl v2, .inl v3, .inl v4, .inl v5] => f fl v0 v1 v2 v3 v4 v5 I Q
  | _ => False
theorem shRIIIII_ {f : (Nat → Bool) → Option Nat → Int → Int → Int → Int → Int → mM → (mO → mM → Prop) → Prop} {fl : Nat → Bool} {I : mM} {Q : mO → mM → Prop} {v0 : Option Nat} {v1 : Int} {v2 : Int} {v3 : Int} {v4 : Int} {v5 : Int} : shRIIIII f fl [mR v0, mI v1, mI v2, mI v3, mI v4, mI v5] I Q = f fl v0 v1 v2 v3 v4 v5 I Q := rfl
theorem shRIIIII_inv {f : (Nat → Bool) → Option Nat → Int → Int → Int → Int → Int → mM → (mO → mM → Prop) → Prop} {fl : Nat → Bool} {I : mM} {Q : mO → mM → Prop} {avs : List mV} (h : shRIIIII f fl avs I Q) : ∃ (v0 : Option Nat) (v1 : Int) (v2 : Int) (v3 : Int) (v4 : Int) (v5 : Int), avs = [mR v0, mI v1, mI v2, mI v3, mI v4, mI v5] ∧ f fl v0 v1 v2 v3 v4 v5 I Q := by
  unfold shRIIIII at h
  split at h
  · exact ⟨_, _, _, _, _, _, rfl, h⟩
  · exact absurd h id
def shRIIL (f : (Nat → Bool) → Option Nat → Int → Int → Int → mM → (mO → mM → Prop) → Prop) : mSp := fun fl avs I Q => match avs with
  | [.inr (.inr v0), .inl v1, .inl v2, .inr (.inl v3)] => f fl v0 v1 v2 v3 I Q
  | _ => False
theorem shRIIL_ {f : (Nat → Bool) → Option Nat → Int → Int → Int → mM → (mO → mM → Prop) → Prop} {fl : Nat → Bool} {I : mM} {Q : mO → mM → Prop} {v0 : Option Nat} {v1 : Int} {v2 : Int} {v3 : Int} : shRIIL f fl [mR v0, mI v1, mI v2, mL v3] I Q = f fl v0 v1 v2 v3 I Q := rfl
theorem shRIIL_inv {f : (Nat → Bool) → Option Nat → Int → Int → Int → mM → (mO → mM → Prop) → Prop} {fl : Nat → Bool} {I : mM} {Q : mO → mM → Prop} {avs : List mV} (h : shRIIL f fl avs I Q) : ∃ (v0 : Option Nat) (v1 : Int) (v2 : Int) (v3 : Int), avs = [mR v0, mI v1, mI v2, mL v3] ∧ f fl v0 v1 v2 v3 I Q := by
  unfold shRIIL at h
  split at h
  · exact ⟨_, _, _, _, rfl, h⟩
  · exact absurd h id
def shRIIRI (f : (Nat → Bool) → Option Nat → Int → Int → Option Nat → Int → mM → (mO → mM → Prop) → Prop) : mSp := fun fl avs I Q => match avs with
  | [.inr (.inr v0), .inl v1, .inl v2, .inr (.inr v3), .inl v4] => f fl v0 v1 v2 v3 v4 I Q
  | _ => False
theorem shRIIRI_ {f : (Nat → Bool) → Option Nat → Int → Int → Option Nat → Int → mM → (mO → mM → Prop) → Prop} {fl : Nat → Bool} {I : mM} {Q : mO → mM → Prop} {v0 : Option Nat} {v1 : Int} {v2 : Int} {v3 : Option Nat} {v4 : Int} : shRIIRI f fl [mR v0, mI v1, mI v2, mR v3, mI v4] I Q = f fl v0 v1 v2 v3 v4 I Q := rfl
theorem shRIIRI_inv {f : (Nat → Bool) → Option Nat → Int → Int → Option Nat → Int → mM → (mO → mM → Prop) → Prop} {fl : Nat → Bool} {I : mM} {Q : mO → mM → Prop} {avs : List mV} (h : shRIIRI f fl avs I Q) : ∃ (v0 : Option Nat) (v1 : Int) (v2 : Int) (v3 : Option Nat) (v4 : Int), avs = [mR v0, mI v1, mI v2, mR v3, mI v4] ∧ f fl v0 v1 v2 v3 v4 I Q := by
  unfold shRIIRI at h
  split at h
  · exact ⟨_, _, _, _, _, rfl, h⟩
  · exact absurd h id
def shRIR (f : (Nat → Bool) → Option Nat → Int → Option Nat → mM → (mO → mM → Prop) → Prop) : mSp := fun fl avs I Q => match avs with
  | [.inr (.inr v0), .inl v1, .inr (.inr v2)] => f fl v0 v1 v2 I Q
  | _ => False
theorem shRIR_ {f : (Nat → Bool) → Option Nat → Int → Option Nat → mM → (mO → mM → Prop) → Prop} {fl : Nat → Bool} {I : mM} {Q : mO → mM → Prop} {v0 : Option Nat} {v1 : Int} {v2 : Option Nat} : shRIR f fl [mR v0, mI v1, mR v2] I Q = f fl v0 v1 v2 I Q := rfl
theorem shRIR_inv {f : (Nat → Bool) → Option Nat → Int → Option Nat → mM → (mO → mM → Prop) → Prop} {fl : Nat → Bool} {I : mM} {Q : mO → mM → Prop} {avs : List mV} (h : shRIR f fl avs I Q) : ∃ (v0 : Option Nat) (v1 : Int) (v2 : Option Nat), avs = [mR v0, mI v1, mR v2] ∧ f fl v0 v1 v2 I Q := by
  unfold shRIR at h
  split at h
  · exact ⟨_, _, _, rfl, h⟩
  · exact absurd h id
def shRIRI (f : (Nat → Bool) → Option Nat → Int → Option Nat → Int → mM → (mO → mM → Prop) → Prop) : mSp := fun fl avs I Q => match avs with
  | [.inr (.inr v0), .inl v1, .inr (.inr v2), .inl v3] => f fl v0 v1 v2 v3 I Q
  | _ => False
theorem shRIRI_ {f : (Nat → Bool) → Option Nat → Int → Option Nat → Int → mM → (mO → mM → Prop) → Prop} {fl : Nat → Bool} {I : mM} {Q : mO → mM → Prop} {v0 : Option Nat} {v1 : Int} {v2 : Option Nat} {v3 : Int} : shRIRI f fl [mR v0, mI v1, mR v2, mI v3] I Q = f fl v0 v1 v2 v3 I Q := rfl
theorem shRIRI_inv {f : (Nat → Bool) → Option Nat → Int → Option Nat → Int → mM → (mO → mM → Prop) → Prop} {fl : Nat → Bool} {I : mM} {Q : mO → mM → Prop} {avs : List mV} (h : shRIRI f fl avs I Q) : ∃ (v0 : Option Nat) (v1 : Int) (v2 : Option Nat) (v3 : Int), avs = [mR v0, mI v1, mR v2, mI v3] ∧ f fl v0 v1 v2 v3 I Q := by
  unfold shRIRI at h
  split at h
  · exact ⟨_, _, _, _, rfl, h⟩
  · exact absurd h id
def shRL (f : (Nat → Bool) → Option Nat → Int → mM → (mO → mM → Prop) → Prop) : mSp := fun fl avs I Q => match avs with
  | [.inr (.inr v0), .inr (.inl v1)] => f fl v0 v1 I Q
  | _ => False
theorem shRL_ {f : (Nat → Bool) → Option Nat → Int → mM → (mO → mM → Prop) → Prop} {fl : Nat → Bool} {I : mM} {Q : mO → mM → Prop} {v0 : Option Nat} {v1 : Int} : shRL f fl [mR v0, mL v1] I Q = f fl v0 v1 I Q := rfl
theorem shRL_inv {f : (Nat → Bool) → Option Nat → Int → mM → (mO → mM → Prop) → Prop} {fl : Nat → Bool} {I : mM} {Q : mO → mM → Prop} {avs : List mV} (h : shRL f fl avs I Q) : ∃ (v0 : Option Nat) (v1 : Int), avs = [mR v0, mL v1] ∧ f fl v0 v1 I Q := by
  unfold shRL at h
  split at h
  · exact ⟨_, _, rfl, h⟩
  · exact absurd h id
def shRLL (f : (Nat → Bool) → Option Nat → Int → Int → mM → (mO → mM → Prop) → Prop) : mSp := fun fl avs I Q => match avs with
  | [.inr (.inr v0), .inr (.inl v1), .inr (.inl v2)] => f fl v0 v1 v2 I Q
  | _ => False
theorem shRLL_ {f : (Nat → Bool) → Option Nat → Int → Int → mM → (mO → mM → Prop) → Prop} {fl : Nat → Bool} {I : mM} {Q : mO → mM → Prop} {v0 : Option Nat} {v1 : Int} {v2 : Int} : shRLL f fl [mR v0, mL v1, mL v2] I Q = f fl v0 v1 v2 I Q := rfl
theorem shRLL_inv {f : (Nat → Bool) → Option Nat → Int → Int → mM → (mO → mM → Prop) → Prop} {fl : Nat → Bool} {I : mM} {Q : mO → mM → Prop} {avs : List mV} (h : shRLL f fl avs I Q) : ∃ (v0 : Option Nat) (v1 : Int) (v2 : Int), avs = [mR v0, mL v1, mL v2] ∧ f fl v0 v1 v2 I Q := by
  unfold shRLL at h
  split at h
  · exact ⟨_, _, _, rfl, h⟩
  · exact absurd h id
def shRLLI (f : (Nat → Bool) → Option Nat → Int → Int → Int → mM → (mO → mM → Prop) → Prop) : mSp := fun fl avs I Q => match avs with
  | [.inr (.inr v0), .inr (.inl v1), .inr (.inl v2), .inl v3] => f fl v0 v1 v2 v3 I Q
  | _ => False
theorem shRLLI_ {f : (Nat → Bool) → Option Nat → Int → Int → Int → mM → (mO → mM → Prop) → Prop} {fl : Nat → Bool} {I : mM} {Q : mO → mM → Prop} {v0 : Option Nat} {v1 : Int} {v2 : Int} {v3 : Int} : shRLLI f fl [mR v0, mL v1, mL v2, mI v3] I Q = f fl v0 v1 v2 v3 I Q := rfl
theorem shRLLI_inv {f : (Nat → Bool) → Option Nat → Int → Int → Int → mM → (mO → mM → Prop) → Prop} {fl : Nat → Bool} {I : mM} {Q : mO → mM → Prop} {avs : List mV} (h : shRLLI f fl avs I Q) : ∃ (v0 : Option Nat) (v1 : Int) (v2 : Int) (v3 : Int), avs = [mR v0, mL v1, mL v2, mI v3] ∧ f fl v0 v1 v2 v3 I Q := by
  unfold shRLLI at h
  split at h
  · exact ⟨_, _, _, _, rfl, h⟩
  · exact absurd h id
def shRR (f : (Nat → Bool) → Option Nat → Option Nat → mM → (mO → mM → Prop) → Prop) : mSp := fun fl avs I Q => match avs with
  | [.inr (.inr v0), .inr (.inr v1)] => f fl v0 v1 I Q
  | _ => False
theorem shRR_ {f : (Nat → Bool) → Option Nat → Option Nat → mM → (mO → mM → Prop) → Prop} {fl : Nat → Bool} {I : mM} {Q : mO → mM → Prop} {v0 : Option Nat} {v1 : Option Nat} : shRR f fl [mR v0, mR v1] I Q = f fl v0 v1 I Q := rfl
theorem shRR_inv {f : (Nat → Bool) → Option Nat → Option Nat → mM → (mO → mM → Prop) → Prop} {fl : Nat → Bool} {I : mM} {Q : mO → mM → Prop} {avs : List mV} (h : shRR f fl avs I Q) : ∃ (v0 : Option Nat) (v1 : Option Nat), avs = [mR v0, mR v1] ∧ f fl v0 v1 I Q := by
  unfold shRR at h
  split at h
  · exact ⟨_, _, rfl, h⟩
  · exact absurd h id
def shRRI (f : (Nat → Bool) → Option Nat → Option Nat → Int → mM → (mO → mM → Prop) → Prop) : mSp := fun fl avs I Q => match avs with
  | [.inr (.inr v0), .inr (.inr v1), .inl v2] => f fl v0 v1 v2 I Q
  | _ => False
theorem shRRI_ {f : (Nat → Bool) → Option Nat → Option Nat → Int → mM → (mO → mM → Prop) → Prop} {fl : Nat → Bool} {I : mM} {Q : mO → mM → Prop} {v0 : Option Nat} {v1 : Option Nat} {v2 : Int} : shRRI f fl [mR v0, mR v1, mI v2] I Q = f fl v0 v1 v2 I Q := rfl
theorem shRRI_inv {f : (Nat → Bool) → Option Nat → Option Nat → Int → mM → (mO → mM → Prop) → Prop} {fl : Nat → Bool} {I : mM} {Q : mO → mM → Prop} {avs : List mV} (h : shRRI f fl avs I Q) : ∃ (v0 : Option Nat) (v1 : Option Nat) (v2 : Int), avs = [mR v0, mR v1, mI v2] ∧ f fl v0 v1 v2 I Q := by
  unfold shRRI at h
  split at h
  · exact ⟨_, _, _, rfl, h⟩
  · exact absurd h id
def shRRII (f : (Nat → Bool) → Option Nat → Option Nat → Int → Int → mM → (mO → mM → Prop) → Prop) : mSp := fun fl avs I Q => match avs with
  | [.inr (.inr v0), .inr (.inr v1), .inl v2, .inl v3] => f fl v0 v1 v2 v3 I Q
  | _ => False
theorem shRRII_ {f : (Nat → Bool) → Option Nat → Option Nat → Int → Int → mM → (mO → mM → Prop) → Prop} {fl : Nat → Bool} {I : mM} {Q : mO → mM → Prop} {v0 : Option Nat} {v1 : Option Nat} {v2 : Int} {v3 : Int} : shRRII f fl [mR v0, mR v1, mI v2, mI v3] I Q = f fl v0 v1 v2 v3 I Q := rfl
theorem shRRII_inv {f : (Nat → Bool) → Option Nat → Option Nat → Int → Int → mM → (mO → mM → Prop) → Prop} {fl : Nat → Bool} {I : mM} {Q : mO → mM → Prop} {avs : List mV} (h : shRRII f fl avs I Q) : ∃ (v0 : Option Nat) (v1 : Option Nat) (v2 : Int) (v3 : Int), avs = [mR v0, mR v1, mI v2, mI v3] ∧ f fl v0 v1 v2 v3 I Q := by
  unfold shRRII at h
  split at h
  · exact ⟨_, _, _, _, rfl, h⟩
  · exact absurd h id
def shRRIII (f : (Nat → Bool) → Option Nat → Option Nat → Int → Int → Int → mM → (mO → mM → Prop) → Prop) : mSp := fun fl avs I Q => match avs with
  | [.inr (.inr v0), .inr (.inr v1), .inl v2, .inl v3, .inl v4] => f fl v0 v1 v2 v3 v4 I Q
  | _ => False
theorem shRRIII_ {f : (Nat → Bool) → Option Nat → Option Nat → Int → Int → Int → mM → (mO → mM → Prop) → Prop} {fl : Nat → Bool} {I : mM} {Q : mO → mM → Prop} {v0 : Option Nat} {v1 : Option Nat} {v2 : Int} {v3 : Int} {v4 : Int} : shRRIII f fl [mR v0, mR v1, mI v2, mI v3, mI v4] I Q = f fl v0 v1 v2 v3 v4 I Q := rfl
theorem shRRIII_inv {f : (Nat → Bool) → Option Nat → Option Nat → Int → Int → Int → mM → (mO → mM → Prop) → Prop} {fl : Nat → Bool} {I : mM} {Q : mO → mM → Prop} {avs : List mV} (h : shRRIII f fl avs I Q) : ∃ (v0 : Option Nat) (v1 : Option Nat) (v2 : Int) (v3 : Int) (v4 : Int), avs = [mR v0, mR v1, mI v2, mI v3, mI v4] ∧ f fl v0 v1 v2 v3 v4 I Q := by
  unfold shRRIII at h
  split at h
  · exact ⟨_, _, _, _, _, rfl, h⟩
  · exact absurd h id
def shRRR (f : (Nat → Bool) → Option Nat → Option Nat → Option Nat → mM → (mO → mM → Prop) → Prop) : mSp := fun fl avs I Q => match avs with
  | [.inr (.inr v0), .inr (.inr v1), .inr (.inr v2)] => f fl v0 v1 v2 I Q
  | _ => False
theorem shRRR_ {f : (Nat → Bool) → Option Nat → Option Nat → Option Nat → mM → (mO → mM → Prop) → Prop} {fl : Nat → Bool} {I : mM} {Q : mO → mM → Prop} {v0 : Option Nat} {v1 : Option Nat} {v2 : Option Nat} : shRRR f fl [mR v0, mR v1, mR v2] I Q = f fl v0 v1 v2 I Q := rfl
theorem shRRR_inv {f : (Nat → Bool) → Option Nat → Option Nat → Option Nat → mM → (mO → mM → Prop) → Prop} {fl : Nat → Bool} {I : mM} {Q : mO → mM → Prop} {avs : List mV} (h : shRRR f fl avs I Q) : ∃ (v0 : Option Nat) (v1 : Option Nat) (v2 : Option Nat), avs = [mR v0, mR v1, mR v2] ∧ f fl v0 v1 v2 I Q := by
  unfold shRRR at h
  split at h
  · exact ⟨_, _, _, rfl, h⟩
  · exact absurd h id
theorem q_I {Q : mO → mM → Prop} {I : mM} {x y : Int} (e : x = y) (h : Q (.inl (some (mI x))) I) : Q (.inl (some (mI y))) I := e ▸ h
theorem q_L {Q : mO → mM → Prop} {I : mM} {x y : Int} (e : x = y) (h : Q (.inl (some (mL x))) I) : Q (.inl (some (mL y))) I := e ▸ h
end MSHAPES
