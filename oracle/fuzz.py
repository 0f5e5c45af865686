# Random runs of calls against ref.py:  fuzz.py SEED RUNS [one|two|rel|full|hard [FILE]]
# one: ordinary calls; two: long coefficients and near numbers; rel: numbers of one field; full: 100
# numbers and the tape; hard: roots that fall together by the class's own primes.
# The classes (AlgebraicReals and Drive) are looked for in /tmp/oracle, or in ORACLE. With FILE, the calls and
# what is due go there, and oracle/runs.py makes a test of such files.
import sys, os, random, subprocess
sys.path.insert(0,os.path.dirname(os.path.abspath(__file__)))
from ref import *
seed=int(sys.argv[1]); runs=int(sys.argv[2]); R=random.Random(seed)
def call(ref,out,name,*args):
    f=getattr(ref,name)
    out.append((' '.join([name]+[('true' if a is True else 'false' if a is False else str(a)) for a in args]), f(*args)))
    return out[-1][1]
def cut(out):
    # 512 calls are promised; what was written is read by a call for each byte, and one more
    had=0
    for k,(c,e) in enumerate(out):
        had+=len(e)+1 if c=='text' else 1
        if had>512+1: return out[:k]
    return out
def text(ref,out): out.append(('text',''.join(map(chr,ref.text))))
def show(ref,out,k):
    call(ref,out,'writeLeast',k); text(ref,out)
    for w in range(4): call(ref,out,'about',k,w)
    call(ref,out,'sign',k)
def small(big=False):
    t=R.random()
    if big and t<0.1: return R.choice([1,-1])*R.getrandbits(63)
    if t<0.7: return R.randint(-6,6)
    if t<0.95: return R.randint(-60,60)
    return R.randint(-10**6,10**6)
def gentext(ref,d=0):
    def atom(d):
        t=R.random()
        if t<0.35 or d>4: return str(R.randint(0,12))
        if t<0.5: return '('+sm(d+1)+')'
        if t<0.75: return '['+str(R.choice([2,2,2,3,3,4,5]))+','+sm(d+1)+']'
        if t<0.88: return R.choice('sc')+'('+R.choice(['','-'])+str(R.randint(0,30))+'/'+str(R.choice([1,2,3,4,5,6,7,8,9,10,11,12,15,16,20,24,30,60]))+')'
        if ref.n: return '@'+str(R.randrange(len(ref.n)+(R.random()<0.03)))
        return str(R.randint(0,99))
    def pw(d):
        a=atom(d)
        if R.random()<0.15: a+='^'+R.choice(['','-'])+str(R.randint(0,4 if R.random()<.9 else 9))
        return a
    def pr(d):
        a=pw(d)
        while R.random()<0.25: a+=R.choice('**/')+pw(d)
        return a
    def sm(d):
        a=('-' if R.random()<0.15 else '')+pr(d)
        while R.random()<0.35: a+=R.choice('+-')+pr(d)
        return a
    t=sm(d)
    if R.random()<0.3: t=''.join(c+(' ' if R.random()<0.2 and not c.isdigit() else '') for c in t)
    if R.random()<0.25:
        l=list(t)
        for _ in range(R.randint(1,2)):
            k=R.randrange(len(l)+1); c=R.choice('+-*/^()[],sc@0123 459x')
            m=R.random()
            if m<0.4: l.insert(k,c)
            elif m<0.7 and l: l.pop(min(k,len(l)-1))
            elif l: l[min(k,len(l)-1)]=c
        t=''.join(l)
    return t
def feedtext(ref,out,t):
    t=t[:300]
    b=t.encode('latin1')
    n=len(b); b=b.ljust((n+19)//20*20,b' ')
    if R.random()<0.1: b=b.replace(b' ',b'\0') if n<len(b) else b
    for k in range(0,len(b),20):
        v=[int.from_bytes(b[k+4*j:k+4*j+4],'big',signed=True) for j in range(5)]
        call(ref,out,'feed',*v)
    if R.random()<0.9: call(ref,out,'end',n)
def polyin(ref,out):
    k=call(ref,out,'polynomial')
    if k<0: k=R.randrange(30)
    t=R.random()
    c=[0]*13
    if t<0.3:
        for i in range(R.randint(0,12)+1): c[i]=small(R.random()<0.3) if R.random()<.7 else 0
    elif t<0.5:
        d=R.randint(1,12); c[d]=R.randint(1,5); c[0]=small(); c[R.randint(0,d)]+=small()
    else:
        c=[R.choice([1,1,-1,2,3,-6])]
        while True:
            if ref.n and R.random()<0.2: f=list(R.choice(ref.n)[0])
            else:
                f=[R.randint(-4,4) for _ in range(R.randint(1,4))]+[R.choice([1,1,1,2,3])]
            m=R.choice([1,1,1,2,3])
            e=c
            for _ in range(m):
                e2=[0]*(len(e)+len(f)-1)
                for i,a in enumerate(e):
                    for j,b in enumerate(f): e2[i+j]+=a*b
                e=e2
            if len(e)>13 or max(abs(v) for v in e)>=2**63: break
            c=e
            if R.random()<0.3: break
        c=c+[0]*(13-len(c))
    for i in range(13):
        if c[i]: call(ref,out,'coefficient',k,i,c[i])
    return k
def h(ref): 
    if not ref.n or R.random()<0.02: return R.choice([-1,len(ref.n),len(ref.n)+3,-105])
    return R.randrange(len(ref.n)) if R.random()<.6 else R.randrange(max(0,len(ref.n)-8),len(ref.n))
def hp(ref):
    if not ref.pol or R.random()<0.03: return R.choice([-1,len(ref.pol),30])
    return R.randrange(len(ref.pol))
def one():
    m=R.choice([10,10,10,10,8,6,4,12,9,3,2,1,0])
    ref=Ref(m); out=[('new %d'%m,'ok')]
    n=R.randint(20,60)
    for _ in range(n):
        if len(out)>470: break
        t=R.random(); before=len(ref.n)
        if t<0.10: r=call(ref,out,'fraction',small(R.random()<.1),R.choice([1,1,1,1,2,3,-4,small(R.random()<.1)]))
        elif t<0.16: call(ref,out,'root',R.randint(0,0) if not ref.n else h(ref),R.choice([2,2,2,2,3,3,4,5,6,7,8,10,12,1,13]))
        elif t<0.22: call(ref,out,'turn',R.choice([R.randint(-50,50),R.getrandbits(63),-2**63,2**63-1]),R.choice([1,2,3,4,5,6,7,8,9,10,11,12,13,14,15,16,18,20,21,22,24,25,26,28,30,32,33,36,40,42,44,48,50,60,66,88,100,120,0,121]),R.random()<.5)
        elif t<0.38: call(ref,out,'apply',R.choice([0,0,1,2,2,3,3,4,-1]) if R.random()<.3 else R.randint(0,3),h(ref),h(ref))
        elif t<0.40: call(ref,out,'plain',h(ref),h(ref))
        elif t<0.45: call(ref,out,'power',h(ref),R.choice([-8,-5,-3,-2,-1,0,1,2,2,3,4,8,9,-9]))
        elif t<0.48: call(ref,out,'beside',h(ref),R.randint(-1,5))
        elif t<0.53: polyin(ref,out)
        elif t<0.58: call(ref,out,'value',hp(ref),h(ref))
        elif t<0.64: call(ref,out,'rootOf',hp(ref),R.randint(-1,4))
        elif t<0.67: call(ref,out,'common',h(ref),h(ref))
        elif t<0.77:
            feedtext(ref,out,gentext(ref)); call(ref,out,'read')
        elif t<0.78: call(ref,out,'drop'); before=99999
        elif t<0.82: call(ref,out,'compare',h(ref),h(ref))
        elif t<0.85: call(ref,out,'within',h(ref),h(ref))
        elif t<0.87: call(ref,out,'roots',hp(ref))
        elif t<0.90: call(ref,out,'between',hp(ref),h(ref),h(ref))
        elif t<0.94:
            r=call(ref,out,'parts',hp(ref))
            for i in range(-1,min(max(r,0),5)+1):
                call(ref,out,'part',i,R.randint(0,1)); call(ref,out,'writePart',i); text(ref,out)
        elif t<0.99: call(ref,out,'write',h(ref),R.choice([0,1,2,5,12,20,80,81,-1])); text(ref,out)
        else: call(ref,out,'coefficient',hp(ref),R.randint(-1,13),small(True))
        if len(ref.n)>before: show(ref,out,len(ref.n)-1)
    return cut(out)

def bigl():
    t=R.random()
    if t<0.3: return R.choice([1,-1])*(1<<R.randint(0,62))+R.choice([0,0,0,1,-1])
    if t<0.6: return R.choice([1,-1])*R.getrandbits(R.randint(1,63))
    if t<0.65: return R.choice([2**63-1,-2**63,-2**63+1])
    return R.randint(-9,9)
def mig(ref,out):
    k=call(ref,out,'polynomial')
    if k<0: k=R.randrange(30)
    for i in range(13):
        if ref.pol[k][i]: call(ref,out,'coefficient',k,i,0)
    t=R.random()
    if t<0.4:
        n=R.randint(3,12); a=1<<R.randint(3,29); a+=R.choice([0,0,1,-1,5])
        for i,v in ((0,-2),(1,4*a),(2,-2*a*a),(n,1)):
            if abs(v)<2**63: call(ref,out,'coefficient',k,i,v)
    elif t<0.7:
        for i in range(R.randint(1,12)+1): call(ref,out,'coefficient',k,i,bigl())
    else:
        # (a x - b)(c x - d) .. with large a
        c=[1]
        for _ in range(R.randint(1,5)):
            f=[R.randint(-2**R.randint(1,14),2**R.randint(1,14)) for _ in range(R.randint(1,2))]+[R.randint(1,2**R.randint(1,14))]
            e=[0]*(len(c)+len(f)-1)
            for i,a in enumerate(c):
                for j,b in enumerate(f): e[i+j]+=a*b
            if len(e)>13 or max(map(abs,e))>=2**63: break
            c=e
        for i,v in enumerate(c): call(ref,out,'coefficient',k,i,v)
    return k
def dup(ref,out,m):
    # something near a number: the fraction that it starts with
    a=R.randrange(len(ref.n)); d=R.choice([1,3,9,15,17,18])
    x=ref.n[a]
    N=ref.g(f'flr({P(x[0])},{x[1]},{d})')+R.choice([0,0,1,1,-1])
    if abs(N)<2**63:
        k=call(ref,out,'fraction',N,10**d)
        if k>=0:
            call(ref,out,'compare',a,k); call(ref,out,'compare',k,a)
            if R.random()<.5 and m>=2:
                j=call(ref,out,'apply',1,a,k)
                if j>=0:
                    show(ref,out,j); call(ref,out,'compare',j,a); call(ref,out,'write',j,R.choice([0,1,d,d+1,2*d,80])); text(ref,out)
                    j2=call(ref,out,'power',j,-1)
                    if j2>=0: show(ref,out,j2); call(ref,out,'write',j2,R.choice([0,d])); text(ref,out)
                    j2=call(ref,out,'apply',3,a,j)
                    if j2>=0: show(ref,out,j2)
def two():
    m=R.choice([10,10,10,8,6,4,9])
    ref=Ref(m); out=[('new %d'%m,'ok')]
    for _ in range(R.randint(15,45)):
        if len(out)>440: break
        t=R.random(); before=len(ref.n)
        if t<0.12: call(ref,out,'fraction',bigl(),bigl())
        elif t<0.24: call(ref,out,'root',h(ref),R.choice([2,2,2,3,3,4,5,6,10]))
        elif t<0.28: call(ref,out,'turn',R.randint(-99,99),R.choice([5,7,8,9,11,12,15,16,20,24]),R.random()<.5)
        elif t<0.46: call(ref,out,'apply',R.randint(0,3),h(ref),h(ref))
        elif t<0.54: call(ref,out,'power',h(ref),R.choice([-8,-3,-2,-1,2,3,4,8]))
        elif t<0.58: call(ref,out,'beside',h(ref),R.randint(0,3))
        elif t<0.66:
            k=mig(ref,out); c=call(ref,out,'roots',k)
            for i in range(max(0,min(c,3))):
                b4=len(ref.n); call(ref,out,'rootOf',k,i)
                if len(ref.n)>b4: show(ref,out,b4); call(ref,out,'write',b4,R.choice([0,5,20,80])); text(ref,out)
            before=9999
        elif t<0.70: call(ref,out,'value',hp(ref),h(ref))
        elif t<0.73: call(ref,out,'common',h(ref),h(ref))
        elif t<0.78 and ref.n: dup(ref,out,m); before=9999
        elif t<0.84: call(ref,out,'compare',h(ref),h(ref))
        elif t<0.88: call(ref,out,'within',h(ref),h(ref))
        elif t<0.93: call(ref,out,'between',hp(ref),h(ref),h(ref))
        elif t<0.96:
            r=call(ref,out,'parts',hp(ref))
            for i in range(min(max(r,0),5)):
                call(ref,out,'part',i,0); call(ref,out,'part',i,1); call(ref,out,'writePart',i); text(ref,out)
        else: call(ref,out,'write',h(ref),R.choice([0,1,2,5,12,20,80])); text(ref,out)
        if len(ref.n)>before: show(ref,out,len(ref.n)-1)
    return cut(out)
def rel():
    # numbers of one field, with long coefficients: what they make falls into parts
    m=10; ref=Ref(m); out=[('new %d'%m,'ok')]
    d=R.choice([2,2,3,3,4,5])
    w=R.choice([2,6,12,20,30])
    k=call(ref,out,'polynomial')
    for i in range(d+1): call(ref,out,'coefficient',k,i,R.choice([1,-1])*(R.getrandbits(w)+(i in(0,d))))
    if R.random()<.4 and d==4:
        call(ref,out,'coefficient',k,1,0); call(ref,out,'coefficient',k,3,0)
    for i in range(3): call(ref,out,'rootOf',k,i)
    if not ref.n: return cut(out)
    ps=[]
    for i in range(4):
        q=call(ref,out,'polynomial'); ps.append(q)
        for j in range(R.randint(1,4)+1): call(ref,out,'coefficient',q,j,R.choice([1,-1])*R.getrandbits(R.choice([1,2,5,10,20])))
        call(ref,out,'value',q,R.randrange(len(ref.n)))
    for _ in range(45):
        before=len(ref.n); a=R.randrange(len(ref.n)); b=R.randrange(len(ref.n)); t=R.random()
        if t<.6: call(ref,out,'apply',R.randint(0,3),a,b)
        elif t<.7: call(ref,out,'common',a,b)
        elif t<.8: call(ref,out,'within',a,b)
        elif t<.85: call(ref,out,'power',a,R.choice([-2,-1,2,3]))
        elif t<.9: call(ref,out,'value',R.choice(ps),a)
        elif t<.95: call(ref,out,'root',a,2)
        else: call(ref,out,'compare',a,b)
        if len(ref.n)>before: show(ref,out,len(ref.n)-1)
    return cut(out)
def full():
    m=R.choice([10,4,1]); ref=Ref(m); out=[('new %d'%m,'ok')]
    for i in range(R.choice([97,99,100,101])): call(ref,out,'fraction',R.randint(-9,9),R.randint(1,5))
    for i in range(60):
        t=R.randrange(14)
        if t==0: call(ref,out,'drop')
        elif t==1: call(ref,out,'root',h(ref),R.randint(1,13))
        elif t==2: call(ref,out,'apply',R.randint(-1,4),h(ref),h(ref))
        elif t==3: call(ref,out,'plain',h(ref),h(ref))
        elif t==4: call(ref,out,'power',h(ref),R.randint(-9,9))
        elif t==5: call(ref,out,'turn',R.randint(-9,9),R.randint(0,60),True)
        elif t==6: feedtext(ref,out,gentext(ref)); call(ref,out,'read')
        elif t==7: call(ref,out,'common',h(ref),h(ref))
        elif t==8: call(ref,out,'polynomial'); call(ref,out,'coefficient',hp(ref),R.randint(0,4),R.randint(-3,3))
        elif t==9: call(ref,out,'rootOf',hp(ref),R.randint(-1,3))
        elif t==10: call(ref,out,'value',hp(ref),h(ref))
        elif t==11: call(ref,out,'beside',h(ref),R.randint(-1,1))
        elif t==12: call(ref,out,'fraction',3,R.randint(0,3))
        else:
            for q in range(R.randint(1,16)): call(ref,out,'feed',*[R.getrandbits(32)-2**31 for _ in range(5)])
            call(ref,out,'end',R.choice([-1,0,5,60,400])); call(ref,out,'read')
        if ref.n: call(ref,out,'compare',R.randrange(len(ref.n)),len(ref.n)-1)
    for i in range(32): call(ref,out,'polynomial')
    return cut(out)
import re
SRC=open(os.path.join(os.path.dirname(os.path.abspath(__file__)),'..','src','main','java','AlgebraicReals.java')).read()
PR=list(map(int,re.findall(r'\b1\d{9}\b',SRC[SRC.index('PRIMES = {'):SRC.index('MORE = ')])))
def primes(k):
    # k of the first ones; most often the very first
    t=R.random()
    return PR[:k] if t<.5 else R.sample(PR[:2*k],k) if t<.8 else R.sample(PR,k)
def times(a,b):
    e=[0]*(len(a)+len(b)-1)
    for i,v in enumerate(a):
        for j,w in enumerate(b): e[i+j]+=v*w
    return e
def fits(c): return len(c)<=13 and max(map(abs,c))<2**63
def hardpoly(n,bits):
    k=max(1,min(25,bits*(n+1)//60))
    k=R.randint(max(1,k//2),k)
    ps=primes(k)
    L=Ref.gp.q(f'hard({n},{ps},{[R.randrange(1,p) if R.random()<.8 else 0 for p in ps]})')
    L=eval(L)
    c=L[0]
    if R.random()<.5: c=[a+R.randint(-2,2)*b for a,b in zip(c,R.choice(L[1:]))]
    while c and c[-1]==0: c=c[:-1]
    return c
def tell(ref,out,c):
    k=call(ref,out,'polynomial')
    if k<0: return -1
    for i,v in enumerate(c):
        if v: call(ref,out,'coefficient',k,i,v)
    return k
def ask(ref,out,k):
    c=call(ref,out,'roots',k)
    r=call(ref,out,'parts',k)
    for i in range(min(max(r,0),4)):
        call(ref,out,'part',i,0); call(ref,out,'part',i,1); call(ref,out,'writePart',i); text(ref,out)
    for i in range(max(0,min(c,2))):
        b4=len(ref.n); call(ref,out,'rootOf',k,i if R.random()<.5 else c-1-i)
        if len(ref.n)>b4: show(ref,out,b4)
    if len(ref.n)>1: call(ref,out,'between',k,R.randrange(len(ref.n)),R.randrange(len(ref.n)))
def prodfrac(ref,out,ps):
    # the fraction that is the product of at most four primes
    h=-1
    for i in range(0,len(ps),2):
        v=1
        for p in ps[i:i+2]: v*=p
        b=call(ref,out,'fraction',v*R.choice([1,1,2,3]) if v<2**60 else v,R.choice([1,1,1,5]))
        h=b if h<0 else call(ref,out,'apply',2,h,b)
    return h
def hard():
    ref=Ref(10); out=[('new 10','ok')]
    for _ in range(3):
        n=R.choice([2,2,3,3,4,5,5,6,7,8,9,10,11,12]); c=hardpoly(n,R.choice([61,61,40,20]))
        if not c or not fits(c): continue
        if R.random()<.4:
            m=hardpoly(R.randint(2,4),R.choice([12,20,30]))
            e=times(c,m) if m else c
            if R.random()<.5 and m: e=times(m,m)
            if m and R.random()<.3: e=times(e,[R.randint(-9,9) for _ in range(2)]+[1])
            if fits(e): c=e
        k=tell(ref,out,c)
        if k>=0: ask(ref,out,k)
    # roots of fractions that many primes divide, and that differ by such ones
    nums=[]
    for _ in range(R.randint(1,2)):
        k=R.choice([2,2,3,4]); q=R.choice([2,2,2,3])
        ps=primes(8)
        a=prodfrac(ref,out,ps[:k]); b=prodfrac(ref,out,ps[k:k+R.choice([1,2,3,4])])
        s=call(ref,out,'fraction',R.randint(1,9),R.choice([1,1,2,3]))
        t=call(ref,out,'apply',0,s,a)
        for z in (a,b,s,t):
            if z>=0:
                y=call(ref,out,'root',z,q if R.random()<.7 else 2)
                if y>=0: nums.append(y)
    # values that fall together: the product of primes as digits to the base D, at the root of D
    D=R.choice([2,3,5,R.getrandbits(10)|1,R.getrandbits(30)|1,R.getrandbits(60)|1])
    M=1
    for p in primes(R.randint(1,11)):
        if M*p<(D**6 if D>2**20 else 2**60): M*=p
    c=[0]*13; v=M
    for i in range(6):
        if i==5 or v<2**60: c[2*i+1]=v; break
        c[2*i+1]=v%D; v//=D
    for i in range(0,13,2): c[i]=R.choice([0,0,R.randint(-9,9)])
    if fits(c):
        k=tell(ref,out,c); f=call(ref,out,'fraction',D,1)
        if f>=0 and k>=0:
            y=call(ref,out,'root',f,2)
            if y>=0:
                nums.append(y); z=call(ref,out,'value',k,y)
                if z>=0: show(ref,out,z)
    nums+=[i for i in range(len(ref.n)) if R.random()<.3]
    # values of multiples of a least polynomial and a little more
    for a in R.sample(nums,min(3,len(nums))):
        A=list(ref.n[a][0])
        for _ in range(20):
            g=[R.choice([1,-1])*R.getrandbits(R.choice([1,3,20,40,60])) for _ in range(R.randint(1,12))]
            c=times(A,g); c[0]+=R.randint(-9,9)
            if R.random()<.5: c[1]+=R.randint(-9,9)
            while c and c[-1]==0: c.pop()
            if c and fits(c):
                k=tell(ref,out,c); b4=len(ref.n); call(ref,out,'value',k,a)
                if len(ref.n)>b4: show(ref,out,b4); nums.append(b4)
                break
    for _ in range(14):
        if not nums or len(out)>440: break
        a=R.choice(nums); b=R.choice(nums); t=R.random(); before=len(ref.n)
        if t<.55: call(ref,out,'apply',R.choice([0,0,1,2,3]),a,b)
        elif t<.75: call(ref,out,'common',a,b)
        elif t<.85: call(ref,out,'within',a,b)
        elif t<.92: call(ref,out,'power',a,R.choice([-2,2,3,4]))
        else: call(ref,out,'compare',a,b)
        if len(ref.n)>before: show(ref,out,before); nums.append(before)
    return cut(out)
mode=sys.argv[3] if len(sys.argv)>3 else 'one'
allout=[]
for r in range(runs): allout+=(one() if mode=='one' else two() if mode=='two' else rel() if mode=='rel' else hard() if mode=='hard' else full())
if len(sys.argv)>4:
    open(sys.argv[4],'w').write('\n'.join(c+'\t'+str(e) for c,e in allout))
p=subprocess.run(['java','-cp',os.environ.get('ORACLE','/tmp/oracle'),'Drive','t'],input='\n'.join(c for c,_ in allout)+'\n',capture_output=True,text=True)
# each answer has a tab and its time behind it; the machine itself now and then says something of its own
got=[l for l in p.stdout.split('\n') if '\t' in l]
for l in p.stdout.split('\n'):
    if l and '\t' not in l: print('not an answer:',l)
bad=0; worst=(0,''); last=0; total=0
for k,(c,e) in enumerate(allout):
    if c.startswith('new'): last=k
    g,t=got[k].rsplit('\t',1) if k<len(got) and '\t' in got[k] else ('<none>','0')
    total+=int(t)
    if int(t)>worst[0]: worst=(int(t),c+' @%d'%k)
    if g!=str(e):
        bad+=1
        if bad<=3:
            print('MISMATCH seed',seed,'line',k,'call',c,'got',g,'due',e)
            for cc,ee in allout[last:k]: print('   ',cc,'->',ee)
if p.stderr: print(p.stderr[:2000])
print('seed',seed,'calls',len(allout),'bad',bad,'worst us',worst,'total ms',total//1000)
