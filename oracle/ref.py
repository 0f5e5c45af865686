# A second writing of the class, with PARI/GP (Debian: pari-gp) for the mathematics.
import os, subprocess, math
HERE=os.path.dirname(os.path.abspath(__file__))
from fractions import Fraction
class GP:
    def __init__(s):
        s.p=subprocess.Popen(['gp','-q','-f','--default','colors=no',os.path.join(HERE,'lib.gp')],stdin=subprocess.PIPE,stdout=subprocess.PIPE,text=True,bufsize=1)
        s.q('default(breakloop,0)')
        s.cache={}
    def q(s,e):
        s.p.stdin.write(e+';\nprint("@@")\n') if e.startswith('default') else s.p.stdin.write('print('+e+')\nprint("@@")\n')
        s.p.stdin.flush()
        out=[]
        while True:
            l=s.p.stdout.readline()
            if l=='': raise Exception('gp died '+e)
            l=l.strip()
            if l=='@@': break
            if l and '***' not in l: out.append(l)
            elif l and '***   Warn' not in l: print('GP:',l,'in',e)
        return ' '.join(out)
    def v(s,e):
        if e in s.cache: return s.cache[e]
        t=s.q(e)
        try: r=eval(t.replace(', ',','))
        except Exception: raise Exception('GP said %r to %s'%(t,e))
        s.cache[e]=r
        return r
def P(c):
    if not c: return '0'
    return 'Polrev(['+','.join(map(str,c))+'])'
NONE,UNKNOWN,OUTSIDE,ZERO,NEGATIVE,OPEN,FULL=-1,-101,-102,-103,-104,-105,-106
class No(Exception):
    pass
class Ref:
    gp=None
    def __init__(s,most):
        if Ref.gp is None: Ref.gp=GP()
        s.most=max(1,min(10,most)); s.n=[]; s.pol=[]; s.tape=[]; s.text=[]; s.prts=[]
    def g(s,e): return Ref.gp.v(e)
    # numbers: (tuple coeffs ascending, place)
    def chk(s,r):
        c,pl=r
        if len(c)-1>s.most or max(abs(v).bit_length() for v in c)>120: raise No(OPEN)
        return (tuple(c),pl)
    def bad(s,*h): return any(a<0 or a>=len(s.n) for a in h)
    def make(s,f):
        try: r=f()
        except No as e: return e.args[0]
        if len(s.n)>=100: return FULL
        s.n.append(r); return len(s.n)-1
    def rat(s,u,l):
        f=Fraction(u,l); return s.chk(([-f.numerator,f.denominator],0))
    def deg(s,a): return len(a[0])-1
    def sgn(s,a):
        if len(a[0])==2: return (a[0][0]<0)-(a[0][0]>0)
        return s.g(f'sgn({P(a[0])},{a[1]})')
    def op(s,op,a,b):
        if op==3 and b[0]==(0,1): raise No(ZERO)
        if s.deg(a)*s.deg(b)>s.most: raise No(OPEN)
        A=f'{P(a[0])},{a[1]}'; B=f'{P(b[0])},{b[1]}'
        if op<2: return s.chk(s.g(f'addn({A},{B},{1 if op==0 else -1})'))
        if op==3:
            r=s.g(f'inv({B})'); B=f'{P(r[0])},{r[1]}'
        return s.chk(s.g(f'mul({A},{B})'))
    def pw(s,a,n):
        if n==0: return ((-1,1),0)
        if a[0]==(0,1):
            if n<0: raise No(ZERO)
            return a
        if n<0:
            r=s.g(f'inv({P(a[0])},{a[1]})'); a=(tuple(r[0]),r[1]); n=-n
        return s.chk(s.g(f'val(x^{n},{P(a[0])},{a[1]})'))
    def rt(s,a,k):
        if k%2==0 and s.sgn(a)<0: raise No(NEGATIVE)
        if s.deg(a)*k>s.most: raise No(OPEN)
        if a[0]==(0,1): return a
        return s.chk(s.g(f'rootk({P(a[0])},{a[1]},{k})'))
    def trn(s,u,l,sine):
        u%=l
        f=Fraction(1,4)-Fraction(u,l) if sine else Fraction(u,l)
        D=f.denominator
        ph=sum(1 for k in range(1,D+1) if math.gcd(k,D)==1)
        if D>2 and ph//2>s.most: raise No(OPEN)
        return s.chk(s.g(f'trn({u},{l},{1 if sine else 0})'))
    # face
    def fraction(s,u,l):
        if l==0: return 'ArithmeticException'
        return s.make(lambda:s.rat(u,l))
    def apply(s,op,a,b):
        if s.bad(a,b): return UNKNOWN
        if not 0<=op<=3: return OUTSIDE
        return s.make(lambda:s.op(op,s.n[a],s.n[b]))
    def plain(s,a,b):
        if s.bad(a,b): return UNKNOWN
        if s.n[b][0]==(0,1): return 'ArithmeticException'
        return s.make(lambda:s.op(3,s.n[a],s.n[b]))
    def power(s,a,n):
        if s.bad(a): return UNKNOWN
        if not -8<=n<=8: return OUTSIDE
        return s.make(lambda:s.pw(s.n[a],n))
    def root(s,a,k):
        if s.bad(a): return UNKNOWN
        if not 2<=k<=12: return OUTSIDE
        return s.make(lambda:s.rt(s.n[a],k))
    def turn(s,u,l,sine):
        if not 1<=l<=120: return OUTSIDE
        return s.make(lambda:s.trn(u,l,sine))
    def beside(s,a,pl):
        if s.bad(a): return UNKNOWN
        if not 0<=pl<s.nreal(s.n[a]): return NONE
        return s.make(lambda:(s.n[a][0],pl))
    def nreal(s,a): return 1 if len(a[0])==2 else s.g(f'nreal({P(a[0])})')
    def badp(s,p): return p<0 or p>=len(s.pol)
    def value(s,p,a):
        if s.badp(p) or s.bad(a): return UNKNOWN
        return s.make(lambda:s.chk(s.g(f'val({P(s.pol[p])},{P(s.n[a][0])},{s.n[a][1]})')))
    def zerop(s,p): return not any(s.pol[p])
    def rootOf(s,p,i):
        if s.badp(p): return UNKNOWN
        if s.zerop(p): return ZERO
        r=s.g(f'rtof({P(s.pol[p])},{i})')
        if r==[]: return NONE
        return s.make(lambda:s.chk(r))
    def common(s,a,b):
        if s.bad(a,b): return UNKNOWN
        def f():
            x,y=s.n[a],s.n[b]
            if s.deg(x)*s.deg(y)>s.most: raise No(OPEN)
            k=s.g(f'comk({P(x[0])},{P(y[0])})')
            return s.chk(s.g(f'addn({P(x[0])},{x[1]},{P(y[0])},{y[1]},{k})'))
        return s.make(f)
    def drop(s):
        if not s.n: return FULL
        s.n.pop(); return len(s.n)
    def compare(s,a,b):
        if s.bad(a,b): return -2
        x,y=s.n[a],s.n[b]
        return s.g(f'cmpn({P(x[0])},{x[1]},{P(y[0])},{y[1]})')
    def sign(s,a): return UNKNOWN if s.bad(a) else s.sgn(s.n[a])
    def about(s,a,w):
        if s.bad(a): return UNKNOWN
        if not 0<=w<=3: return OUTSIDE
        x=s.n[a]
        return [lambda:s.deg(x),lambda:x[1],lambda:s.nreal(x),lambda:max(abs(v).bit_length() for v in x[0])][w]()
    def within(s,a,b):
        if s.bad(a,b): return UNKNOWN
        x,y=s.n[a],s.n[b]
        if s.deg(x)*s.deg(y)>s.most: return OPEN
        return s.g(f'wi({P(x[0])},{x[1]},{P(y[0])},{y[1]})')
    def polynomial(s):
        if len(s.pol)>=30: return FULL
        s.pol.append([0]*13); return len(s.pol)-1
    def coefficient(s,p,i,v):
        if s.badp(p): return UNKNOWN
        if not 0<=i<=12: return OUTSIDE
        s.pol[p]=list(s.pol[p]); s.pol[p][i]=v
        return max([-1]+[j for j in range(13) if s.pol[p][j]])
    def roots(s,p):
        if s.badp(p): return UNKNOWN
        if s.zerop(p): return ZERO
        return s.g(f'nroots({P(s.pol[p])})')
    def between(s,p,a,b):
        if s.badp(p) or s.bad(a,b): return UNKNOWN
        if s.zerop(p): return ZERO
        x,y=s.n[a],s.n[b]
        return s.g(f'btw({P(s.pol[p])},{P(x[0])},{x[1]},{P(y[0])},{y[1]})')
    def parts(s,p):
        if s.badp(p): return UNKNOWN
        if s.zerop(p): return ZERO
        L=s.g(f'prt({P(s.pol[p])})')
        L=sorted(L,key=lambda t:(len(t[0]),t[0][::-1]))
        s.prts=L
        return len(L)
    def part(s,i,w):
        if not 0<=i<len(s.prts) or w not in(0,1): return OUTSIDE
        return len(s.prts[i][0])-1 if w==0 else s.prts[i][1]
    def put(s,t): s.text=[ord(c) for c in t]; return len(t)
    def write(s,a,d):
        if s.bad(a): return UNKNOWN
        if not 0<=d<=80: return OUTSIDE
        x=s.n[a]
        N=s.g(f'flr({P(x[0])},{x[1]},{d})')
        t=str(abs(N)).rjust(d+1,'0')
        if d: t=t[:-d]+'.'+t[-d:]
        return s.put(('-' if N<0 else '')+t)
    def form(s,c):
        o=''
        for i in range(len(c)-1,-1,-1):
            v=c[i]
            if v==0: continue
            if o=='' : o+='-' if v<0 else ''
            else: o+='-' if v<0 else '+'
            xp='' if i==0 else 'x' if i==1 else f'x^{i}'
            if i==0: o+=str(abs(v))
            elif abs(v)==1: o+=xp
            else: o+=str(abs(v))+'*'+xp
        return s.put(o)
    def writeLeast(s,a): return UNKNOWN if s.bad(a) else s.form(s.n[a][0])
    def writePart(s,i): return s.form(s.prts[i][0]) if 0<=i<len(s.prts) else OUTSIDE
    def at(s,i): return s.text[i] if 0<=i<len(s.text) else NONE
    def feed(s,a,b,c,d,e):
        if len(s.tape)+20>300: return 'IllegalStateException'
        for v in(a,b,c,d,e): s.tape+=list((v&0xffffffff).to_bytes(4,'big'))
        return len(s.tape)
    def end(s,n):
        if n<0 or n>len(s.tape): return 'IllegalArgumentException'
        s.tape=s.tape[:n]; return 'ok'
    # reading: LL(1) with a token list, an explicit tree, then working
    def tokens(s,b):
        i=0; out=[]
        while i<len(b):
            c=chr(b[i])
            if c==' ': i+=1; continue
            if c in '0123456789':
                j=i
                while j<len(b) and chr(b[j]) in '0123456789': j+=1
                t=''.join(map(chr,b[i:j]))
                out.append(('N' if j-i<=9 else '?',int(t),i)); i=j; continue
            out.append((c if c in '+-*/^()[],sc@' else '?',0,i)); i+=1
        out.append(('$',0,len(b)))
        return out
    def read(s):
        b=s.tape; s.tape=[]
        T=s.tokens(b); pos=[0]
        class W(Exception): pass
        def tk(): return T[pos[0]]
        def need(k,lo=None,hi=None):
            t=tk()
            if t[0]!=k or (lo is not None and not lo<=t[1]<=hi): raise W(t[2])
            pos[0]+=1; return t[1]
        def SUM(d):
            neg=tk()[0]=='-'
            if neg: pos[0]+=1
            n=PROD(d)
            if neg: n=('neg',n)
            while tk()[0] in '+-' :
                o=tk()[0]; pos[0]+=1
                n=('op',0 if o=='+' else 1,n,PROD(d))
            return n
        def PROD(d):
            n=POW(d)
            while tk()[0] in '*/':
                o=tk()[0]; pos[0]+=1
                n=('op',2 if o=='*' else 3,n,POW(d))
            return n
        def POW(d):
            n=ATOM(d)
            if tk()[0]=='^':
                pos[0]+=1; sg=1
                if tk()[0]=='-': sg=-1; pos[0]+=1
                n=('pow',n,sg*need('N',0,8))
            return n
        def ATOM(d):
            k=tk()[0]
            if k=='N': return ('num',need('N'))
            if k=='@': pos[0]+=1; return ('h',need('N',0,len(s.n)-1))
            if k in '([' and d>=10: raise W(tk()[2])
            if k=='(':
                pos[0]+=1; n=SUM(d+1); need(')'); return n
            if k=='[':
                pos[0]+=1; kk=need('N',2,12); need(','); n=SUM(d+1); need(']'); return ('root',n,kk)
            if k in 'sc':
                pos[0]+=1; need('('); sg=1
                if tk()[0]=='-': sg=-1; pos[0]+=1
                u=need('N'); need('/'); l=need('N',1,120); need(')')
                return ('turn',sg*u,l,k=='s')
            raise W(tk()[2])
        try:
            n=SUM(0)
            if tk()[0]!='$': raise W(tk()[2])
        except W as e: return -1000-e.args[0]
        def ev(n):
            k=n[0]
            if k=='num': return s.rat(n[1],1)
            if k=='h': return s.n[n[1]]
            if k=='neg':
                a=ev(n[1])
                return (tuple((-v if (len(a[0])-1-i)%2 else v) for i,v in enumerate(a[0])), s.nreal(a)-1-a[1])
            if k=='op':
                a=ev(n[2]); b=ev(n[3]); return s.op(n[1],a,b)
            if k=='pow': return s.pw(ev(n[1]),n[2])
            if k=='root': return s.rt(ev(n[1]),n[2])
            if k=='turn': return s.trn(n[1],n[2],n[3])
        return s.make(lambda:ev(n))
